import java.util.LinkedHashMap;
import java.util.Map;
import java.util.function.ToIntFunction;

/**
 * "A call that returns an error changes nothing", "what if; nothing changes", and what a question, a
 * text or a saving leaves as it is. Each call is made on quizzes of its own, and all that can be asked
 * of these, of their history, their pad and their slots is compared with a quiz without that call.
 */
public final class UnchangedTest {
    private static final int NO_SUCH = -1, BAD_VALUE = -2, BAD_TEXT = -3, TOO_MANY = -4, NOT_POSSIBLE = -5, NONE = -6;
    private static final String SHEET = "98765-3210", KEY = "9876543210";
    private static final int TEAMS = 3;

    public static void main(String[] args) {
        refusals();
        refusedTexts();
        refusedTeam();
        refusedUndo();
        questions();
        Checks.end();
    }

    /** What has come to be in the quiz, with slots 0 and 1 saved on the way, and a pad of that text. */
    private static PubQuizzes quiz(String pad) {
        PubQuizzes quiz = new PubQuizzes();
        quiz.set(PubQuizzes.ENTRY, 7);
        for (int i = 0; i < TEAMS; i++) {
            quiz.team();
        }
        quiz.joker(0, 1);
        quiz.save(0);
        quiz.set(PubQuizzes.MINUS, 1);
        quiz.guess(1, 40);
        for (int team = 0; team < 2; team++) {
            quiz.put(Checks.number("98765001"));
            quiz.put(Checks.number("-0"));
            quiz.hand(team, 1);
        }
        quiz.put(Checks.number("98765432"));
        quiz.put(Checks.number("10"));
        quiz.key(1);
        quiz.save(1);
        quiz.mark(2, 0, 1, 9);
        quiz.look(0, 1);
        quiz.put(Checks.number("98765432"));
        quiz.put(Checks.number("--"));
        quiz.hand(0, 2);
        quiz.guess(0, 50);
        quiz.truth(44);
        quiz.set(PubQuizzes.FINE, 3);
        for (int from = 0; from < pad.length(); from += 8) {
            quiz.put(Checks.number(pad.substring(from, Math.min(from + 8, pad.length()))));
        }
        return quiz;
    }

    private static void refusals() {
        Map<String, ToIntFunction<PubQuizzes>> calls = new LinkedHashMap<>();
        calls.put("set(4, 1)", q -> q.set(4, 1));
        calls.put("set(-1, 1)", q -> q.set(-1, 1));
        calls.put("set(0, 0)", q -> q.set(0, 0));
        calls.put("set(1, 51)", q -> q.set(1, 51));
        calls.put("set(2, -1)", q -> q.set(2, -1));
        calls.put("set(3, 10)", q -> q.set(3, 10));
        calls.put("mark(0, 0, 1, 5)", q -> q.mark(0, 0, 1, 5));
        calls.put("mark(0, 1, 1, 11)", q -> q.mark(0, 1, 1, 11));
        calls.put("mark(0, 1, 1, -21)", q -> q.mark(0, 1, 1, -21));
        calls.put("guess(0, -1)", q -> q.guess(0, -1));
        calls.put("guess(0, 10000)", q -> q.guess(0, 10000));
        calls.put("truth(-1)", q -> q.truth(-1));
        calls.put("truth(10000)", q -> q.truth(10000));
        calls.put("ofTeam(0, 10)", q -> q.ofTeam(0, 10));
        calls.put("ofRound(0, 6)", q -> q.ofRound(0, 6));
        calls.put("sheet(0, 1, 5)", q -> q.sheet(0, 1, 5));
        calls.put("answer(0, 1, 10)", q -> q.answer(0, 1, 10));
        calls.put("count(15)", q -> q.count(15));
        calls.put("bestJoker(0, 2)", q -> q.bestJoker(0, 2));
        calls.put("put(0)", q -> q.put(0));
        calls.put("put(\"1 \")", q -> q.put(Checks.number("1 ")));
        calls.put("save(2)", q -> q.save(2));
        calls.put("save(-1)", q -> q.save(-1));
        calls.put("restore(2)", q -> q.restore(2));
        calls.put("restore(-1)", q -> q.restore(-1));
        unchanged(calls, "", BAD_VALUE);
        unchanged(noSuch(), SHEET, NO_SUCH);
        unchanged(notPossible(), KEY, NOT_POSSIBLE);
    }

    private static Map<String, ToIntFunction<PubQuizzes>> noSuch() {
        Map<String, ToIntFunction<PubQuizzes>> calls = new LinkedHashMap<>();
        calls.put("hand(3, 0)", q -> q.hand(3, 0));
        calls.put("hand(2, 8)", q -> q.hand(2, 8));
        calls.put("joker(3, 0)", q -> q.joker(3, 0));
        calls.put("joker(2, -1)", q -> q.joker(2, -1));
        calls.put("key(8)", q -> q.key(8));
        calls.put("mark(3, 1, 1, 5)", q -> q.mark(3, 1, 1, 5));
        calls.put("mark(0, 3, 1, 5)", q -> q.mark(0, 3, 1, 5));
        calls.put("mark(0, 1, 8, 5)", q -> q.mark(0, 1, 8, 5));
        calls.put("look(3, 1)", q -> q.look(3, 1));
        calls.put("look(0, 8)", q -> q.look(0, 8));
        calls.put("guess(3, 5)", q -> q.guess(3, 5));
        calls.put("ofTeam(3, 0)", q -> q.ofTeam(3, 0));
        calls.put("ofRound(8, 0)", q -> q.ofRound(8, 0));
        calls.put("sheet(2, 1, 0)", q -> q.sheet(2, 1, 0));
        calls.put("answer(2, 1, 0)", q -> q.answer(2, 1, 0));
        calls.put("answer(NONE, 0, 0)", q -> q.answer(NONE, 0, 0));
        calls.put("at(3)", q -> q.at(3));
        calls.put("bestJoker(3, 0)", q -> q.bestJoker(3, 0));
        calls.put("most(3)", q -> q.most(3));
        calls.put("ifLooked(3)", q -> q.ifLooked(3));
        return calls;
    }

    private static Map<String, ToIntFunction<PubQuizzes>> notPossible() {
        Map<String, ToIntFunction<PubQuizzes>> calls = new LinkedHashMap<>();
        calls.put("team()", q -> q.team());
        calls.put("hand(2, 1)", q -> q.hand(2, 1));
        calls.put("hand(0, 2)", q -> q.hand(0, 2));
        calls.put("joker(0, 5)", q -> q.joker(0, 5));
        calls.put("joker(1, 1)", q -> q.joker(1, 1));
        calls.put("joker(2, 1)", q -> q.joker(2, 1));
        calls.put("key(1)", q -> q.key(1));
        calls.put("mark(1, 0, 2, 5)", q -> q.mark(1, 0, 2, 5));
        calls.put("mark(1, 2, 1, 5)", q -> q.mark(1, 2, 1, 5));
        calls.put("mark(1, 0, 1, 5)", q -> q.mark(1, 0, 1, 5));
        calls.put("look(0, 1)", q -> q.look(0, 1));
        calls.put("look(1, 1)", q -> q.look(1, 1));
        calls.put("look(0, 2)", q -> q.look(0, 2));
        calls.put("guess(0, 1)", q -> q.guess(0, 1));
        calls.put("truth(44)", q -> q.truth(44));
        return calls;
    }

    private static void refusedTexts() {
        Map<String, ToIntFunction<PubQuizzes>> hand = Map.of("hand(2, 0)", q -> q.hand(2, 0));
        Map<String, ToIntFunction<PubQuizzes>> key = Map.of("key(0)", q -> q.key(0));
        for (String pad : new String[] {"", "987654321", SHEET + "0", "98765x3210"}) {
            unchanged(hand, pad, BAD_TEXT);
            unchanged(key, pad, BAD_TEXT);
        }
        unchanged(key, SHEET, BAD_TEXT);
        String full = "1234567890".repeat(8);
        Map<String, ToIntFunction<PubQuizzes>> put = Map.of("put(\"1\")", q -> q.put('1'));
        unchanged(put, full, TOO_MANY);
        Map<String, ToIntFunction<PubQuizzes>> putMore = Map.of("put(\"12345678\")", q -> q.put(Checks.number("12345678")));
        unchanged(putMore, full.substring(7), TOO_MANY);
        unchanged(putMore, full.substring(1), TOO_MANY);
    }

    private static void refusedTeam() {
        PubQuizzes quiz = Checks.withTeams(10);
        due("an eleventh team", quiz.team(), TOO_MANY);
        due("ten teams", quiz.count(0), 10);
        due("ten entries", quiz.count(1), 100);
        due("six changes", quiz.count(14), 6);
        due("no team 10", quiz.ofTeam(10, 8), NO_SUCH);
        due("the last one taken back", quiz.undo(), 5);
        due("nine teams", quiz.count(0), 9);
    }

    private static void refusedUndo() {
        PubQuizzes quiz = quiz(SHEET);
        PubQuizzes same = quiz(SHEET);
        for (int i = 0; i < 6; i++) {
            quiz.undo();
            same.undo();
        }
        due("no undo is left", quiz.undo(), NOT_POSSIBLE);
        due("nor then", quiz.undo(), NOT_POSSIBLE);
        same("undo", all(quiz), all(same));
        PubQuizzes empty = new PubQuizzes();
        due("nothing is saved", empty.restore(0), NOT_POSSIBLE);
        due("nothing is saved", empty.restore(1), NOT_POSSIBLE);
        same("restore", all(empty), all(new PubQuizzes()));
    }

    /** Questions, and what is no change: the state and the history are as they were. */
    private static void questions() {
        Map<String, ToIntFunction<PubQuizzes>> calls = new LinkedHashMap<>();
        for (int what = 0; what < 10; what++) {
            int asked = what;
            calls.put("ofTeam(0, " + what + ")", q -> q.ofTeam(0, asked));
        }
        for (int what = 0; what < 6; what++) {
            int asked = what;
            calls.put("ofRound(1, " + what + ")", q -> q.ofRound(1, asked));
        }
        for (int what = 0; what < 5; what++) {
            int asked = what;
            calls.put("sheet(0, 1, " + what + ")", q -> q.sheet(0, 1, asked));
        }
        for (int what = 0; what < 15; what++) {
            int asked = what;
            calls.put("count(" + what + ")", q -> q.count(asked));
        }
        calls.put("answer(0, 1, 0)", q -> q.answer(0, 1, 0));
        calls.put("answer(NONE, 1, 0)", q -> q.answer(NONE, 1, 0));
        calls.put("at(0)", q -> q.at(0));
        calls.put("bestJoker(0, 0)", q -> q.bestJoker(0, 0));
        calls.put("bestJoker(1, 1)", q -> q.bestJoker(1, 1));
        calls.put("most(0)", q -> q.most(0));
        calls.put("most(2)", q -> q.most(2));
        calls.put("canWin()", q -> q.canWin());
        calls.put("ifLooked(0)", q -> q.ifLooked(0));
        calls.put("ifLooked(1)", q -> q.ifLooked(1));
        calls.put("wrongMarks()", q -> q.wrongMarks());
        calls.put("fault()", q -> q.fault());
        calls.put("wipe(), and put again", q -> q.wipe() + q.put(Checks.number("98765-32")) + q.put(Checks.number("10")));
        for (String call : calls.keySet()) {
            compared(call, SHEET, calls.get(call));
        }
    }

    private static void unchanged(Map<String, ToIntFunction<PubQuizzes>> calls, String pad, int error) {
        for (String call : calls.keySet()) {
            ToIntFunction<PubQuizzes> refused = calls.get(call);
            due(call, refused.applyAsInt(quiz(pad)), error);
            compared(call, pad, refused);
        }
    }

    /** Three quizzes, for one object is used for 512 calls alone. */
    private static void compared(String call, String pad, ToIntFunction<PubQuizzes> made) {
        PubQuizzes asked = quiz(pad);
        made.applyAsInt(asked);
        same(call, all(asked), all(quiz(pad)));
        PubQuizzes undone = quiz(pad);
        made.applyAsInt(undone);
        same(call + ", then the history", history(undone), history(quiz(pad)));
        PubQuizzes restored = quiz(pad);
        made.applyAsInt(restored);
        same(call + ", then the slots", slots(restored), slots(quiz(pad)));
    }

    private static void same(String call, String got, String want) {
        due(call + " changes nothing", got.equals(want) ? 1 : 0, 1);
    }

    private static void due(String call, long got, long want) {
        Checks.due(call, got, want);
    }

    private static void add(StringBuilder text, int answer) {
        text.append(answer).append(' ');
    }

    private static String all(PubQuizzes quiz) {
        StringBuilder all = new StringBuilder(numbers(quiz));
        for (int round = 0; round < 8; round++) {
            for (int what = 0; what < 6; what++) {
                add(all, quiz.ofRound(round, what));
            }
        }
        for (int team = 0; team < TEAMS; team++) {
            for (int round = 1; round < 3; round++) {
                for (int what = 0; what < 5; what++) {
                    add(all, quiz.sheet(team, round, what));
                }
                for (int question = 0; question < 10; question++) {
                    add(all, quiz.answer(team, round, question));
                }
            }
        }
        for (int question = 0; question < 10; question++) {
            add(all, quiz.answer(NONE, 1, question));
        }
        return all + padText(quiz);
    }

    /** What the pad holds, as far as a sheet tells it. */
    private static String padText(PubQuizzes quiz) {
        StringBuilder text = new StringBuilder("pad ");
        add(text, quiz.hand(2, 7));
        for (int question = 0; question < 10; question++) {
            add(text, quiz.answer(2, 7, question));
        }
        return text.toString();
    }

    private static String numbers(PubQuizzes quiz) {
        StringBuilder numbers = new StringBuilder();
        for (int what = 0; what < 15; what++) {
            add(numbers, quiz.count(what));
        }
        for (int team = 0; team < TEAMS; team++) {
            for (int what = 0; what < 10; what++) {
                add(numbers, quiz.ofTeam(team, what));
            }
            add(numbers, quiz.bestJoker(team, 0));
            add(numbers, quiz.bestJoker(team, 1));
            add(numbers, quiz.most(team));
            add(numbers, quiz.ifLooked(team));
            add(numbers, quiz.at(team));
        }
        add(numbers, quiz.canWin());
        add(numbers, quiz.wrongMarks());
        add(numbers, quiz.fault());
        return numbers.toString();
    }

    private static String history(PubQuizzes quiz) {
        StringBuilder history = new StringBuilder();
        for (int i = 0; i < 7; i++) {
            add(history, quiz.undo());
            history.append(numbers(quiz));
        }
        return history.toString();
    }

    private static String slots(PubQuizzes quiz) {
        StringBuilder slots = new StringBuilder();
        for (int slot = 0; slot < 2; slot++) {
            add(slots, quiz.restore(slot));
            slots.append(numbers(quiz));
        }
        return slots.toString();
    }
}
