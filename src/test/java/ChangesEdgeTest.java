/**
 * The boundaries of promises 1 to 10, sentence by sentence: the least and the greatest, one more and
 * one less, empty and full, the first time and the second one. Those of the questions stand in
 * QuestionsEdgeTest, those of texts and of undo in UndoEdgeTest; which error comes first stands in
 * OrderTest, and that a refused call changes nothing in UnchangedTest.
 */
public final class ChangesEdgeTest {
    private static final int NO_SUCH = -1, BAD_VALUE = -2, BAD_TEXT = -3, TOO_MANY = -4, NOT_POSSIBLE = -5, NONE = -6;
    private static final int NO_MARK = -99;
    private static final int MIN = Integer.MIN_VALUE, MAX = Integer.MAX_VALUE;
    private static final String NOTHING = "----------", ONES = "1111111111", ZEROS = "0000000000";

    public static void main(String[] args) {
        newObject();
        settings();
        teams();
        teamAfterAKey();
        handedTexts();
        handedOnce();
        jokers();
        keyTexts();
        keysOnce();
        marksOnce();
        looksOnce();
        trueMarks();
        guesses();
        truths();
        Checks.end();
    }

    private static void due(String call, long got, long want) {
        Checks.due(call, got, want);
    }

    // 1: "without teams, with all rounds open"
    private static void newObject() {
        PubQuizzes quiz = new PubQuizzes();
        int[] counts = {0, 0, 0, 0, 255, 0, 0, NONE, 0, 10, 10, 0, 2, 0, 0};
        for (int what = 0; what < 15; what++) {
            due("1: count " + what, quiz.count(what), counts[what]);
        }
        int[] ofRound = {1, 0, 0, 0, 0, NONE};
        for (int round = 0; round < 8; round++) {
            for (int what = 0; what < 6; what++) {
                due("1: round " + round + ", " + what, quiz.ofRound(round, what), ofRound[what]);
            }
            due("1: no key of " + round, quiz.answer(NONE, round, 0), NO_SUCH);
            due("1: no sheet of " + round, quiz.sheet(0, round, 0), NO_SUCH);
        }
        for (int team = 0; team < 10; team++) {
            due("1: no team " + team, quiz.ofTeam(team, 0), NO_SUCH);
            due("1: no place " + team, quiz.at(team), NO_SUCH);
            due("1: no most " + team, quiz.most(team), NO_SUCH);
        }
        due("1: nobody can win", quiz.canWin(), 0);
        due("1: no wrong marks", quiz.wrongMarks(), 0);
        due("1: the pad is empty", quiz.fault(), 0);
        due("1: nothing to wipe", quiz.wipe(), 0);
        due("1: nothing to undo", quiz.undo(), NOT_POSSIBLE);
        due("1: slot 0 is empty", quiz.restore(0), NOT_POSSIBLE);
        due("1: slot 1 is empty", quiz.restore(1), NOT_POSSIBLE);
    }

    // Settings: "ENTRY (1 to 100; 10), HOUSE (0 to 50; 10), MINUS (0 to 2; 0), FINE (0 to 9; 2)"
    private static void settings() {
        int[] first = {10, 10, 0, 2};
        int[] least = {1, 0, 0, 0};
        int[] greatest = {100, 50, 2, 9};
        for (int s = 0; s < 4; s++) {
            PubQuizzes quiz = new PubQuizzes();
            String of = "2: setting " + s + ", ";
            int previous = first[s];
            for (int value = least[s]; value <= greatest[s]; value++) {
                due(of + value, quiz.set(s, value), previous);
                due(of + value + " is it", quiz.count(9 + s), value);
                previous = value;
            }
            int[] wrong = {least[s] - 1, greatest[s] + 1, -1, -6, 101, 256, 1 << 16, MIN, MAX, MIN + 1, MAX - 1};
            for (int value : wrong) {
                due(of + value, quiz.set(s, value), BAD_VALUE);
                due(of + value + " is not it", quiz.count(9 + s), greatest[s]);
            }
            for (int other = 0; other < 4; other++) {
                due(of + "the others are as they were", quiz.count(9 + other), other == s ? greatest[s] : first[other]);
            }
        }
        PubQuizzes quiz = new PubQuizzes();
        for (int setting : new int[] {-1, 4, 5, 256, 1 << 30, -6, MIN, MAX}) {
            due("2: no setting " + setting, quiz.set(setting, 1), BAD_VALUE);
        }
        due("2: nothing was recorded", quiz.count(14), 0);
    }

    // 3: "Returns its number; TOO_MANY if there are 10 teams"
    private static void teams() {
        PubQuizzes quiz = new PubQuizzes();
        for (int team = 0; team < 10; team++) {
            quiz.set(PubQuizzes.ENTRY, 1 + team);
            due("3: team " + team + " is not there", quiz.ofTeam(team, 8), NO_SUCH);
            due("3: it comes", quiz.team(), team);
            due("3: its entry", quiz.ofTeam(team, 8), 1 + team);
            due("3: so many teams", quiz.count(0), 1 + team);
        }
        due("3: the eleventh", quiz.team(), TOO_MANY);
        due("3: all entries", quiz.count(1), 55);
        due("3: the tenth one is taken back", quiz.undo(), 5);
        due("3: another tenth one", quiz.team(), 9);
        due("3: no eleventh one", quiz.team(), TOO_MANY);
        PubQuizzes rich = new PubQuizzes();
        rich.set(PubQuizzes.ENTRY, 100);
        rich.set(PubQuizzes.HOUSE, 50);
        for (int team = 0; team < 10; team++) {
            rich.team();
        }
        due("3: the greatest entries", rich.count(1), 1000);
        due("16: the greatest share of the house", rich.count(2), 500);
    }

    // 3: "NOT_POSSIBLE if the key of some round is told"
    private static void teamAfterAKey() {
        for (int round = 0; round < 8; round++) {
            PubQuizzes quiz = Checks.withTeams(9);
            for (int other = 0; other < 8; other++) {
                Checks.hand(quiz, 0, other, ONES);
            }
            due("3: sheets do not matter", quiz.team(), 9);
            quiz.undo();
            Checks.key(quiz, round, ONES);
            due("3: the key of " + round + " is told", quiz.team(), NOT_POSSIBLE);
            quiz.undo();
            due("3: it is not told any more", quiz.team(), 9);
            PubQuizzes empty = new PubQuizzes();
            Checks.key(empty, round, ONES);
            due("3: not the first team either", empty.team(), NOT_POSSIBLE);
        }
    }

    // 4: "BAD_TEXT if the pad does not tell a sheet"; ten signs, each a digit or "-"
    private static void handedTexts() {
        for (int length = 0; length <= 80; length++) {
            PubQuizzes quiz = Checks.withTeams(1);
            int due = length == 10 ? 10 : BAD_TEXT;
            due("4: " + length + " signs", Checks.hand(quiz, 0, 0, ONES.repeat(8).substring(0, length)), due);
            due("4: the pad then", quiz.wipe(), length == 10 ? 0 : length);
        }
        for (int code = 33; code <= 126; code++) {
            PubQuizzes other = Checks.withTeams(1);
            boolean digit = code >= '0' && code <= '9';
            for (int place = 0; place < 10; place++) {
                String text = ONES.substring(0, place) + (char) code + ONES.substring(place + 1);
                int due = digit ? 10 : code == '-' ? 9 : BAD_TEXT;
                due("4: " + text, Checks.hand(other, 0, 0, text), due);
                if (due != BAD_TEXT) {
                    due("4: its sign", other.answer(0, 0, place), digit ? code - '0' : NONE);
                    other.undo();
                }
            }
        }
        PubQuizzes answers = Checks.withTeams(10);
        for (int team = 0; team < 10; team++) {
            int due = team + 1;
            due("4: answers of " + team, Checks.hand(answers, team, 7, ONES.substring(0, due) + NOTHING.substring(due)), due);
        }
        Checks.hand(answers, 0, 0, NOTHING);
        due("4: no answer is a sheet, too", answers.sheet(0, 0, 4), 0);
        due("4: which is there", answers.ofTeam(0, 6), 129);
    }

    // 4: "While it is open, a team can hand its sheet in, once"
    private static void handedOnce() {
        PubQuizzes quiz = Checks.withTeams(10);
        for (int round = 0; round < 8; round += 7) {
            for (int team = 0; team < 10; team += 9) {
                due("4: first", Checks.hand(quiz, team, round, ONES), 10);
                due("4: the pad is emptied", quiz.wipe(), 0);
                due("4: again", Checks.hand(quiz, team, round, ONES), NOT_POSSIBLE);
                due("4: the pad is kept", quiz.wipe(), 10);
            }
        }
        quiz.undo();
        due("4: the sheet is not in", quiz.ofRound(7, 1), 1);
        due("4: in again", Checks.hand(quiz, 9, 7, NOTHING), 0);
        Checks.key(quiz, 3, ONES);
        for (int team = 0; team < 10; team++) {
            due("4: the round is not open", Checks.hand(quiz, team, 3, ONES), NOT_POSSIBLE);
        }
        due("4: no sheets", quiz.ofRound(3, 1), 0);
        due("4: not open after a sheet either", Checks.key(quiz, 7, ONES), 2);
        due("4: not open, and in", Checks.hand(quiz, 0, 7, ONES), NOT_POSSIBLE);
        due("4: the next round is open", Checks.hand(quiz, 9, 4, ONES), 10);
        quiz.undo();
        quiz.undo();
        due("4: open again, no sheet of it", Checks.hand(quiz, 1, 7, ONES), 10);
    }

    // 5: "on an open round as long as its sheet of that round is not handed in, and cannot take it back"
    private static void jokers() {
        PubQuizzes quiz = Checks.withTeams(10);
        for (int team = 0; team < 10; team++) {
            due("5: no joker of " + team, quiz.ofTeam(team, 3), NONE);
            due("5: jokers on 7", quiz.joker(team, 7), team + 1);
            due("5: its joker", quiz.ofTeam(team, 3), 7);
        }
        for (int round = 0; round < 8; round++) {
            due("5: it is put, not on " + round, quiz.joker(0, round), NOT_POSSIBLE);
        }
        due("5: all jokers", quiz.ofRound(7, 2), 1023);
        due("5: none on 0", quiz.ofRound(0, 2), 0);
        PubQuizzes other = Checks.withTeams(3);
        Checks.hand(other, 0, 0, NOTHING);
        due("5: the sheet is in", other.joker(0, 0), NOT_POSSIBLE);
        due("5: the sheet of another team does not matter", other.joker(1, 0), 1);
        due("5: its sheet of another round does not matter", other.joker(0, 1), 1);
        due("5: with the joker the sheet can be handed in", Checks.hand(other, 0, 1, NOTHING), 0);
        Checks.key(other, 2, ONES);
        due("5: not open", other.joker(2, 2), NOT_POSSIBLE);
        due("5: open", other.joker(2, 3), 1);
        other.undo();
        due("5: taken back by undo alone", other.ofTeam(2, 3), NONE);
        due("5: and so put again", other.joker(2, 0), 2);
        Checks.key(other, 0, ONES);
        due("5: not put again when its round is over", other.joker(2, 5), NOT_POSSIBLE);
    }

    // 6: "BAD_TEXT if the pad does not tell a key": a key is ten digits
    private static void keyTexts() {
        for (int length = 0; length <= 80; length++) {
            PubQuizzes quiz = new PubQuizzes();
            int due = length == 10 ? 0 : BAD_TEXT;
            due("6: " + length + " digits", Checks.key(quiz, 0, ONES.repeat(8).substring(0, length)), due);
            due("6: the pad then", quiz.wipe(), length == 10 ? 0 : length);
            due("6: open", quiz.ofRound(0, 0), length == 10 ? 0 : 1);
        }
        for (int code = 33; code <= 126; code++) {
            PubQuizzes quiz = new PubQuizzes();
            boolean digit = code >= '0' && code <= '9';
            for (int place = 0; place < 10; place++) {
                String text = ZEROS.substring(0, place) + (char) code + ZEROS.substring(place + 1);
                due("6: " + text, Checks.key(quiz, 7, text), digit ? 0 : BAD_TEXT);
                due("6: its sign", quiz.answer(NONE, 7, place), digit ? code - '0' : NO_SUCH);
                if (digit) {
                    quiz.undo();
                }
            }
        }
    }

    // 6: "Returns how many sheets of the round were handed in", "NOT_POSSIBLE if the round is not open"
    private static void keysOnce() {
        for (int sheets = 0; sheets <= 10; sheets++) {
            PubQuizzes quiz = Checks.withTeams(10);
            for (int team = 10 - sheets; team < 10; team++) {
                Checks.hand(quiz, team, 7, NOTHING);
            }
            due("6: sheets", Checks.key(quiz, 7, ONES), sheets);
            due("6: again", Checks.key(quiz, 7, ONES), NOT_POSSIBLE);
            due("6: no sheets of another round", Checks.key(quiz, 0, ONES), 0);
        }
        PubQuizzes quiz = new PubQuizzes();
        for (int round = 0; round < 8; round++) {
            due("6: without teams", Checks.key(quiz, round, ONES), 0);
            due("6: rounds that are open", quiz.count(4), 255 & ~0 << round + 1);
        }
        quiz.undo();
        due("6: open again", quiz.count(4), 128);
        due("6: another key", Checks.key(quiz, 7, ZEROS), 0);
        due("6: is it", quiz.answer(NONE, 7, 9), 0);
    }

    // 7: "another team tells the mark of a sheet, once"; "mark: -20 to 10"
    private static void marksOnce() {
        PubQuizzes quiz = Checks.withTeams(3);
        Checks.hand(quiz, 0, 0, NOTHING);
        Checks.hand(quiz, 1, 0, ONES);
        due("7: the round is open", quiz.mark(1, 0, 0, 0), NOT_POSSIBLE);
        Checks.key(quiz, 0, ONES);
        for (int mark = -20; mark <= 10; mark++) {
            due("7: mark " + mark, quiz.mark(2, 0, 0, mark), 1);
            due("7: is it", quiz.sheet(0, 0, 0), 100 + mark);
            due("7: told, by the same", quiz.mark(2, 0, 0, mark), NOT_POSSIBLE);
            due("7: told, by another one", quiz.mark(1, 0, 0, mark), NOT_POSSIBLE);
            quiz.undo();
            due("7: not told", quiz.sheet(0, 0, 0), NONE);
        }
        for (int mark : new int[] {-21, 11, -22, 12, -100, 100, 256, MIN, MAX}) {
            due("7: mark " + mark, quiz.mark(2, 0, 0, mark), BAD_VALUE);
        }
        for (int team = 0; team < 3; team++) {
            due("7: a team and itself", quiz.mark(team, team, 0, 0), BAD_VALUE);
        }
        due("7: no sheet", quiz.mark(0, 2, 0, 0), NOT_POSSIBLE);
        due("7: a marker without a sheet", quiz.mark(2, 1, 0, 0), 1);
        quiz.look(1, 0);
        due("7: looked at", quiz.mark(2, 1, 0, 10), NOT_POSSIBLE);
        due("7: the first marker stays", quiz.sheet(1, 0, 1), 2);
        PubQuizzes one = Checks.withTeams(1);
        Checks.round(one, 0);
        due("7: the only team", one.mark(0, 0, 0, 0), BAD_VALUE);
        due("7: no other team", one.mark(1, 0, 0, 0), NO_SUCH);
    }

    // 8: "The house can look at a sheet whose mark was told, once"
    private static void looksOnce() {
        PubQuizzes quiz = Checks.withTeams(10);
        for (int round = 0; round < 8; round += 7) {
            for (int team = 0; team < 10; team += 9) {
                due("8: no sheet", quiz.look(team, round), NOT_POSSIBLE);
                Checks.hand(quiz, team, round, ONES);
                due("8: open", quiz.look(team, round), NOT_POSSIBLE);
            }
            Checks.key(quiz, round, ONES);
        }
        for (int round = 0; round < 8; round += 7) {
            for (int team = 0; team < 10; team += 9) {
                due("8: not told", quiz.look(team, round), NOT_POSSIBLE);
                quiz.mark(5, team, round, 9 + round / 7);
                due("8: looked at", quiz.look(team, round), round == 0 ? 1 : 0);
                due("8: again", quiz.look(team, round), NOT_POSSIBLE);
                due("8: the true mark", quiz.sheet(team, round, 0), 110);
            }
            due("8: a fine for each wrong one", quiz.ofTeam(5, 4), 2);
        }
        due("8: sheets looked at", quiz.ofRound(7, 4), 513);
        due("8: none of the marked ones is fined", quiz.ofTeam(0, 4) + quiz.ofTeam(9, 4), 0);
        due("8: undone", quiz.undo(), 5);
        due("8: and looked at again", quiz.look(9, 7), 0);
    }

    // "a point for each answer that is that of the key, less MINUS for each other digit"
    private static void trueMarks() {
        for (int minus = 0; minus <= 2; minus++) {
            for (int right = 0; right <= 10; right++) {
                PubQuizzes quiz = Checks.withTeams(3);
                quiz.set(PubQuizzes.MINUS, minus);
                Checks.hand(quiz, 0, 0, ONES.substring(0, right) + ZEROS.substring(right));
                Checks.hand(quiz, 1, 0, NOTHING.substring(right) + ONES.substring(0, right));
                Checks.hand(quiz, 2, 0, NOTHING.substring(right) + ZEROS.substring(0, right));
                Checks.key(quiz, 0, ONES);
                String of = "MINUS " + minus + ", " + right + " ";
                due(of + "right", quiz.sheet(0, 0, 3), 100 + right - minus * (10 - right));
                due(of + "right, no wrong ones", quiz.sheet(1, 0, 3), 100 + right);
                due(of + "wrong, no right ones", quiz.sheet(2, 0, 3), 100 - minus * right);
                int other = right - minus * (10 - right) == -20 ? -19 : -20;
                quiz.mark(1, 0, 0, other);
                due(of + "told wrong", quiz.look(0, 0), 1);
                due(of + "is the mark", quiz.sheet(0, 0, 0), 100 + right - minus * (10 - right));
                quiz.set(PubQuizzes.MINUS, 2 - minus);
                due(of + "MINUS as it was then", quiz.sheet(0, 0, 0), 100 + right - minus * (10 - right));
            }
        }
        PubQuizzes zero = Checks.withTeams(1);
        Checks.hand(zero, 0, 0, ZEROS);
        Checks.key(zero, 0, ZEROS);
        due("the answer 0 is a digit", zero.sheet(0, 0, 3), 110);
    }

    // 9: "a number, 0 to 9999, as often as it likes until the truth is told"; "the latest guess counts"
    private static void guesses() {
        PubQuizzes quiz = Checks.withTeams(10);
        due("9: the first one", quiz.guess(9, 0), NONE);
        int previous = 0;
        for (int guess : new int[] {9999, 0, 0, 1, 9998, 9999}) {
            due("9: guess " + guess, quiz.guess(9, guess), previous);
            due("9: is it", quiz.ofTeam(9, 5), guess);
            previous = guess;
        }
        for (int guess : new int[] {-1, 10000, 10001, -6, -9999, 1 << 16, MIN, MAX}) {
            due("9: guess " + guess, quiz.guess(9, guess), BAD_VALUE);
            due("9: stays", quiz.ofTeam(9, 5), 9999);
        }
        due("9: another team has none", quiz.ofTeam(0, 5), NONE);
        quiz.truth(9999);
        due("9: too late", quiz.guess(9, 9999), NOT_POSSIBLE);
        due("9: too late for the first one", quiz.guess(0, 0), NOT_POSSIBLE);
        due("9: still none", quiz.ofTeam(0, 5), NONE);
        quiz.undo();
        due("9: the truth is not told any more", quiz.guess(0, 0), NONE);
    }

    // 10: "until the truth is told, once"; "Returns how many teams have guessed"
    private static void truths() {
        for (int truth : new int[] {-1, 10000, -6, 10001, 1 << 16, MIN, MAX}) {
            PubQuizzes quiz = new PubQuizzes();
            due("10: truth " + truth, quiz.truth(truth), BAD_VALUE);
            due("10: not told", quiz.count(7), NONE);
        }
        for (int truth : new int[] {0, 1, 9998, 9999}) {
            PubQuizzes quiz = new PubQuizzes();
            due("10: truth " + truth, quiz.truth(truth), 0);
            due("10: is it", quiz.count(7), truth);
            due("10: again", quiz.truth(truth), NOT_POSSIBLE);
            due("10: a team comes yet", quiz.team(), 0);
            due("10: but does not guess", quiz.guess(0, truth), NOT_POSSIBLE);
        }
        for (int guessers = 0; guessers <= 10; guessers++) {
            PubQuizzes quiz = Checks.withTeams(10);
            for (int team = 10 - guessers; team < 10; team++) {
                quiz.guess(team, 0);
                quiz.guess(team, 1);
            }
            due("10: guessers", quiz.truth(0), guessers);
            quiz.undo();
            due("10: told again", quiz.truth(9999), guessers);
        }
    }
}
