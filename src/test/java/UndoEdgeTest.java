import java.util.function.ToIntFunction;

/** The boundaries of promises 22 to 27: texts, undo, and saved states. */
public final class UndoEdgeTest {
    private static final int BAD_VALUE = -2, BAD_TEXT = -3, TOO_MANY = -4, NOT_POSSIBLE = -5, NONE = -6;
    private static final int MIN = Integer.MIN_VALUE, MAX = Integer.MAX_VALUE;
    private static final String SHEET = "01-3456789", KEY = "0123456789";

    public static void main(String[] args) {
        codes();
        zeroBits();
        oneToEight();
        fullPad();
        wipe();
        faults();
        faultOfEachCode();
        historyLength();
        historyGoesRound();
        everyChangeIsRecorded();
        changesWithoutADifference();
        notRecorded();
        undoLeavesThePad();
        undoLeavesTheSlots();
        slots();
        slotsAreKept();
        savedIsEverything();
        entriesAreSaved();
        restoreIsUndone();
        lastCalls();
        Checks.end();
    }

    private static void due(String call, long got, long want) {
        Checks.due(call, got, want);
    }

    // 22: "a code is not 33 to 126", at each of the eight places
    private static void codes() {
        for (int code = 1; code < 256; code++) {
            for (int place = 0; place < 8; place++) {
                boolean good = code >= 33 && code <= 126;
                PubQuizzes quiz = new PubQuizzes();
                long shifted = (long) code << 8 * place;
                long others = 0x3131313131313131L & ~(255L << 8 * place);
                due("22: code " + code + " at " + place, quiz.put(others | shifted), good ? 8 : BAD_VALUE);
                long below = others & (1L << 8 * place) - 1;
                due("22: code " + code + " first of " + place, quiz.put(below | shifted), good ? 9 + place : BAD_VALUE);
                due("22: the pad then", quiz.count(13), good ? 9 + place : 0);
            }
        }
    }

    // 22: "8 bits that are 0 mean that there are no more characters, and everything above them has to be 0, too"
    private static void zeroBits() {
        PubQuizzes quiz = new PubQuizzes();
        due("22: no character", quiz.put(0), BAD_VALUE);
        for (int zero = 0; zero < 8; zero++) {
            long below = 0x3131313131313131L & (1L << 8 * zero) - 1;
            for (int bit = 8 * zero + 8; bit < 64; bit++) {
                due("22: 0 at " + zero + ", bit " + bit, quiz.put(below | 1L << bit), BAD_VALUE);
            }
            long above = 0x3131313131313131L & ~(255L << 8 * zero);
            int due = zero == 7 ? 7 : BAD_VALUE;
            due("22: only 0 at " + zero, quiz.put(above), due);
        }
        for (long characters : new long[] {-1, Long.MIN_VALUE, Long.MAX_VALUE, Long.MIN_VALUE | '1', -256 | '1', 1L << 32 | '1'}) {
            due("22: " + characters, quiz.put(characters), BAD_VALUE);
        }
        due("22: all bits of an int", quiz.put(0x31313131L), 11);
        due("22: more bits than those of an int", quiz.put(0x3131313131L), 16);
    }

    // 22: "1 to 8 characters", "its lowest 8 bits are the last character"
    private static void oneToEight() {
        for (int length = 1; length <= 8; length++) {
            PubQuizzes quiz = Checks.withTeams(1);
            due("22: so many characters", quiz.put(Checks.number(KEY.substring(0, length))), length);
            due("22: appended", quiz.put(Checks.number(KEY.substring(length, Math.min(length + 8, 10)))), Math.min(length + 8, 10));
            if (length == 1) {
                due("22: the last one", quiz.put('9'), 10);
            }
            due("22: ten digits", quiz.hand(0, 0), 10);
            for (int question = 0; question < 10; question++) {
                due("22: in this order", quiz.answer(0, 0, question), question);
            }
            due("22: the pad is empty then, and one comes first again", quiz.put('5'), 1);
        }
    }

    // 22: "TOO_MANY if the pad would be longer than 80"
    private static void fullPad() {
        for (int length = 72; length <= 80; length++) {
            for (int added = 1; added <= 8; added++) {
                PubQuizzes quiz = new PubQuizzes();
                Checks.pad(quiz, "1234567890".repeat(8).substring(0, length));
                int longer = length + added;
                due("22: " + length + " and " + added, quiz.put(Checks.number("abcdefgh".substring(0, added))),
                    longer > 80 ? TOO_MANY : longer);
                due("22: the pad then", quiz.count(13), longer > 80 ? length : longer);
                due("22: its fault", quiz.fault(), 10);
                due("22: all of it is wiped", quiz.wipe(), longer > 80 ? length : longer);
                due("22: and there is room again", quiz.put('1'), 1);
            }
        }
    }

    // 23: "Empties the pad, and returns the length that it had"
    private static void wipe() {
        PubQuizzes quiz = new PubQuizzes();
        due("23: empty", quiz.wipe(), 0);
        due("23: empty again", quiz.wipe(), 0);
        for (int length : new int[] {1, 8, 9, 10, 11, 79, 80}) {
            Checks.pad(quiz, "1".repeat(length));
            due("23: " + length, quiz.wipe(), length);
            due("23: then none", quiz.wipe(), 0);
            due("23: nor a sheet", quiz.fault(), 0);
        }
        due("23: no change", quiz.count(14), 0);
    }

    // 24: "the index of the first character that cannot stand at its place (also of the eleventh one)"
    private static void faults() {
        for (int length = 0; length <= 80; length++) {
            PubQuizzes quiz = new PubQuizzes();
            String text = "01-345678-".repeat(8).substring(0, length);
            Checks.pad(quiz, text);
            due("24: " + text, quiz.fault(), length < 10 ? length : length == 10 ? NONE : 10);
            for (int place = 0; place < length && place < 12; place++) {
                quiz.wipe();
                Checks.pad(quiz, text.substring(0, place) + "x" + text.substring(place + 1));
                due("24: x at " + place + " of " + length, quiz.fault(), Math.min(place, 10));
            }
        }
        PubQuizzes quiz = new PubQuizzes();
        Checks.pad(quiz, "0123x5x78901");
        due("24: the first one of several", quiz.fault(), 4);
    }

    private static void faultOfEachCode() {
        for (int code = 33; code <= 126; code++) {
            PubQuizzes quiz = new PubQuizzes();
            boolean sign = code == '-' || code >= '0' && code <= '9';
            quiz.put(code);
            due("24: code " + code, quiz.fault(), sign ? 1 : 0);
            Checks.pad(quiz, "012345678" + (char) code);
            due("24: code " + code + " last", quiz.fault(), sign ? NONE : 9);
            Checks.pad(quiz, "0123456789" + (char) code);
            due("24: code " + code + " eleventh", quiz.fault(), 10);
        }
    }

    // 25: "A history of at most 6 states is kept"; "when one more is recorded, the oldest one is dropped"
    private static void historyLength() {
        for (int changes = 0; changes <= 20; changes++) {
            PubQuizzes quiz = new PubQuizzes();
            for (int change = 1; change <= changes; change++) {
                quiz.set(PubQuizzes.ENTRY, 20 + change);
                due("25: changes", quiz.count(14), Math.min(change, 6));
            }
            int kept = Math.min(changes, 6);
            for (int undone = 1; undone <= kept; undone++) {
                due("25: left", quiz.undo(), kept - undone);
                due("25: as counted", quiz.count(14), kept - undone);
                due("25: as before", quiz.count(9), changes == undone ? 10 : 20 + changes - undone);
            }
            due("25: none is left", quiz.undo(), NOT_POSSIBLE);
            due("25: it stays", quiz.count(9), changes == kept ? 10 : 20 + changes - 6);
        }
    }

    // The history is used again and again: some undone, some new ones, for all amounts of both.
    private static void historyGoesRound() {
        for (int undone = 0; undone <= 6; undone++) {
            for (int added = 0; added <= 8; added++) {
                PubQuizzes quiz = new PubQuizzes();
                for (int entry = 1; entry <= 9; entry++) {
                    quiz.set(PubQuizzes.ENTRY, entry);
                }
                for (int i = 0; i < undone; i++) {
                    quiz.undo();
                }
                due("25: undone", quiz.count(9), 9 - undone);
                for (int entry = 1; entry <= added; entry++) {
                    quiz.set(PubQuizzes.ENTRY, 50 + entry);
                }
                int kept = Math.min(6 - undone + added, 6);
                due("25: kept", quiz.count(14), kept);
                for (int i = 1; i <= kept; i++) {
                    quiz.undo();
                    due("25: " + undone + " undone, " + added + " new, " + i + " back", quiz.count(9),
                        i < added ? 50 + added - i : 9 - undone - (i - added));
                }
                due("25: no more", quiz.undo(), NOT_POSSIBLE);
            }
        }
    }

    /** Two teams, sheets in rounds 0 and 1, whose keys are told, and a pad that tells a key; nothing to undo. */
    private static PubQuizzes ready() {
        PubQuizzes quiz = Checks.withTeams(2);
        Checks.hand(quiz, 0, 0, SHEET);
        Checks.key(quiz, 0, KEY);
        quiz.mark(1, 0, 0, 5);
        Checks.hand(quiz, 1, 1, SHEET);
        Checks.hand(quiz, 0, 1, SHEET);
        Checks.key(quiz, 1, KEY);
        quiz.save(0);
        for (int i = 0; i < 6; i++) {
            quiz.set(PubQuizzes.FINE, 2);
        }
        for (int i = 0; i < 6; i++) {
            quiz.undo();
        }
        due("ready", quiz.undo(), NOT_POSSIBLE);
        Checks.pad(quiz, KEY);
        return quiz;
    }

    // 25: "each method that is a change, and returns no error, records the state before it"
    private static void everyChangeIsRecorded() {
        recorded("set", q -> q.set(0, 11), 10);
        recorded("hand", q -> q.hand(0, 7), 10);
        recorded("joker", q -> q.joker(0, 7), 1);
        recorded("key", q -> q.key(7), 0);
        recorded("mark", q -> q.mark(0, 1, 1, -20), 1);
        recorded("look", q -> q.look(0, 0), 1);
        recorded("guess", q -> q.guess(0, 0), NONE);
        recorded("truth", q -> q.truth(0), 0);
        PubQuizzes quiz = new PubQuizzes();
        due("25: team", quiz.team(), 0);
        due("25: recorded", quiz.count(14), 1);
        due("25: undone", quiz.undo(), 0);
        due("25: no team", quiz.count(0), 0);
        PubQuizzes saved = ready();
        saved.set(0, 11);
        saved.undo();
        due("25: restore", saved.restore(0), 2);
        due("25: recorded", saved.count(14), 1);
        due("25: undone", saved.undo(), 0);
    }

    private static void recorded(String change, ToIntFunction<PubQuizzes> made, int answer) {
        PubQuizzes quiz = ready();
        String before = all(quiz);
        due("25: " + change, made.applyAsInt(quiz), answer);
        due("25: " + change + " is recorded", quiz.count(14), 1);
        due("25: " + change + " changes something", all(quiz).equals(before) ? 0 : 1, 1);
        due("25: " + change + " is undone", quiz.undo(), 0);
        due("25: all is as it was before " + change, all(quiz).equals(before) ? 1 : 0, 1);
        due("25: " + change + " can be made again", made.applyAsInt(remade(quiz)), answer);
    }

    /** The pad is not brought back by undo, and so it is put once more. */
    private static PubQuizzes remade(PubQuizzes quiz) {
        Checks.pad(quiz, KEY);
        return quiz;
    }

    // 25: "(also if nothing is different then)"
    private static void changesWithoutADifference() {
        PubQuizzes quiz = Checks.withTeams(1);
        quiz.undo();
        quiz.team();
        int[] values = {10, 10, 0, 2};
        for (int setting = 0; setting < 4; setting++) {
            due("25: the same value", quiz.set(setting, values[setting]), values[setting]);
            due("25: recorded", quiz.count(14), setting + 2);
        }
        due("25: a guess", quiz.guess(0, 5), NONE);
        due("25: the same guess", quiz.guess(0, 5), 5);
        due("25: six are kept", quiz.count(14), 6);
        due("25: the same guess is undone", quiz.undo(), 5);
        due("25: it is the first one", quiz.ofTeam(0, 5), 5);
        due("25: that one is undone", quiz.undo(), 4);
        due("25: it is none", quiz.ofTeam(0, 5), NONE);
        quiz.save(0);
        quiz.restore(0);
        due("25: the same state is restored", quiz.count(14), 5);
    }

    // 25: an undo is not recorded, nor what is no change: "put, wipe, fault, undo, save"
    private static void notRecorded() {
        PubQuizzes quiz = Checks.withTeams(2);
        quiz.undo();
        due("25: an undo is not recorded", quiz.count(14), 1);
        quiz.put('1');
        quiz.fault();
        quiz.wipe();
        quiz.save(0);
        quiz.save(1);
        due("25: nor are texts and savings", quiz.count(14), 1);
        due("25: the first team is taken back", quiz.undo(), 0);
        due("25: no teams", quiz.count(0), 0);
        due("25: what was saved stays", quiz.restore(0), 1);
    }

    // 25: "everything except the pad, the slots and the history"
    private static void undoLeavesThePad() {
        PubQuizzes quiz = Checks.withTeams(1);
        Checks.hand(quiz, 0, 0, SHEET);
        quiz.undo();
        due("25: the pad stays empty", quiz.count(13), 0);
        due("25: a text is wanted again", quiz.hand(0, 0), BAD_TEXT);
        Checks.key(quiz, 0, KEY);
        Checks.pad(quiz, "abc");
        quiz.undo();
        due("25: the pad stays as it is", quiz.count(13), 3);
        quiz.undo();
        due("25: also before the team", quiz.wipe(), 3);
    }

    private static void undoLeavesTheSlots() {
        PubQuizzes quiz = Checks.withTeams(1);
        quiz.set(PubQuizzes.ENTRY, 20);
        quiz.save(0);
        quiz.set(PubQuizzes.ENTRY, 30);
        quiz.save(1);
        for (int i = 0; i < 3; i++) {
            quiz.undo();
        }
        due("25: no teams", quiz.count(0), 0);
        due("25: slot 0 stays", quiz.restore(0), 1);
        due("25: what it held", quiz.count(9), 20);
        due("25: slot 1 stays", quiz.restore(1), 1);
        due("25: what it held", quiz.count(9), 30);
    }

    // 26, 27: "slot: 0 or 1"; "NOT_POSSIBLE if nothing was saved in it"
    private static void slots() {
        PubQuizzes quiz = Checks.withTeams(3);
        for (int slot : new int[] {-1, 2, 3, NONE, 256, 1 << 16, MIN, MAX}) {
            due("26: slot " + slot, quiz.save(slot), BAD_VALUE);
            due("27: slot " + slot, quiz.restore(slot), BAD_VALUE);
        }
        due("27: nothing in slot 0", quiz.restore(0), NOT_POSSIBLE);
        due("27: nothing in slot 1", quiz.restore(1), NOT_POSSIBLE);
        due("26: slot 1", quiz.save(1), 3);
        due("27: nothing in slot 0 yet", quiz.restore(0), NOT_POSSIBLE);
        due("27: slot 1", quiz.restore(1), 3);
        PubQuizzes other = new PubQuizzes();
        due("26: slot 0, no teams", other.save(0), 0);
        due("27: nothing in slot 1", other.restore(1), NOT_POSSIBLE);
        other.team();
        due("27: slot 0, no teams", other.restore(0), 0);
        due("27: no teams then", other.count(0), 0);
        due("27: and no team 0", other.most(0), -1);
        PubQuizzes ten = Checks.withTeams(10);
        due("26: ten teams", ten.save(0), 10);
        due("27: ten teams", ten.restore(0), 10);
    }

    // 26: "overwrites what was saved there"; 27: "what was saved last in a slot, which keeps it"
    private static void slotsAreKept() {
        PubQuizzes quiz = new PubQuizzes();
        for (int teams = 1; teams <= 4; teams++) {
            quiz.team();
            due("26: overwritten", quiz.save(teams % 2), teams);
        }
        for (int i = 0; i < 4; i++) {
            due("27: saved last in 0", quiz.restore(0), 4);
            due("27: so many teams", quiz.count(0), 4);
            quiz.team();
            due("27: saved last in 1", quiz.restore(1), 3);
            due("27: so many teams", quiz.count(0), 3);
            quiz.set(PubQuizzes.ENTRY, 50 + i);
        }
        due("27: the slot did not change with it", quiz.restore(1) * 100 + quiz.count(9), 310);
    }

    // 26: "everything except the pad, the history and the slots"
    private static void savedIsEverything() {
        PubQuizzes quiz = ready();
        quiz.joker(0, 5);
        quiz.look(0, 0);
        quiz.guess(1, 9999);
        for (int setting = 0; setting < 4; setting++) {
            quiz.set(setting, 1);
        }
        String saved = all(quiz);
        due("26: saved", quiz.save(1), 2);
        quiz.joker(1, 4);
        quiz.mark(0, 1, 1, -3);
        quiz.look(1, 1);
        quiz.guess(1, 0);
        quiz.guess(0, 1);
        quiz.truth(7);
        Checks.hand(quiz, 1, 6, SHEET);
        Checks.key(quiz, 6, KEY);
        for (int setting = 0; setting < 4; setting++) {
            quiz.set(setting, 2);
        }
        Checks.pad(quiz, "pad");
        due("27: restored", quiz.restore(1), 2);
        due("27: all is as it was saved", all(quiz).equals(saved) ? 1 : 0, 1);
        due("27: the pad is not", quiz.count(13), 3);
        due("27: the history is not", quiz.count(14), 6);
        quiz.set(PubQuizzes.HOUSE, 40);
        quiz.undo();
        due("27: the other slot is not", quiz.restore(0), 2);
        due("27: the other slot has another state", quiz.count(9), 10);
    }

    // 25, 26: the entries that were paid are a part of what is saved, and of what is undone
    private static void entriesAreSaved() {
        PubQuizzes quiz = new PubQuizzes();
        quiz.set(PubQuizzes.ENTRY, 3);
        quiz.team();
        quiz.save(0);
        quiz.undo();
        quiz.set(PubQuizzes.ENTRY, 90);
        quiz.team();
        due("another entry", quiz.ofTeam(0, 8), 90);
        quiz.restore(0);
        due("27: the entry that was paid", quiz.ofTeam(0, 8), 3);
        due("27: the entries", quiz.count(1), 3);
        quiz.undo();
        due("25: the entry before", quiz.ofTeam(0, 8), 90);
        due("25: the entries before", quiz.count(1), 90);
    }

    // 27: "This is a change": undo brings back what was before it
    private static void restoreIsUndone() {
        PubQuizzes quiz = Checks.withTeams(2);
        quiz.save(0);
        Checks.hand(quiz, 1, 7, SHEET);
        Checks.key(quiz, 7, KEY);
        quiz.mark(0, 1, 7, 3);
        String before = all(quiz);
        due("27: restored", quiz.restore(0), 2);
        due("27: recorded", quiz.count(14), 6);
        due("27: no sheets", quiz.ofTeam(1, 6), 0);
        due("27: undone", quiz.undo(), 5);
        due("27: all is as it was before", all(quiz).equals(before) ? 1 : 0, 1);
        for (int i = 0; i < 8; i++) {
            quiz.restore(0);
        }
        due("27: the oldest ones are dropped", quiz.count(14), 6);
        for (int i = 0; i < 6; i++) {
            quiz.undo();
        }
        due("27: restored before all that is kept", quiz.ofTeam(1, 6), 0);
        due("27: no more", quiz.undo(), NOT_POSSIBLE);
    }

    // "An object is used for at most 512 calls": the last ones answer as the first ones do
    private static void lastCalls() {
        PubQuizzes changes = new PubQuizzes();
        for (int call = 0; call < 500; call++) {
            changes.set(PubQuizzes.ENTRY, 1 + call % 100);
        }
        due("many changes", changes.count(14), 6);
        for (int left = 5; left >= 0; left--) {
            due("the last ones are undone", changes.undo(), left);
        }
        due("the change before them", changes.count(9), 94);
        due("no more of them", changes.undo(), NOT_POSSIBLE);
        PubQuizzes texts = new PubQuizzes();
        for (int call = 0; call < 512; call++) {
            due("put again and again", texts.put('1'), call < 80 ? call + 1 : TOO_MANY);
        }
        PubQuizzes guesses = Checks.withTeams(1);
        for (int call = 0; call < 510; call++) {
            due("guess again and again", guesses.guess(0, call), call == 0 ? NONE : call - 1);
        }
    }

    private static String all(PubQuizzes quiz) {
        StringBuilder all = new StringBuilder();
        for (int what = 0; what < 13; what++) {
            all.append(quiz.count(what)).append(' ');
        }
        for (int team = 0; team < 2; team++) {
            for (int what = 0; what < 10; what++) {
                all.append(quiz.ofTeam(team, what)).append(' ');
            }
            for (int round = 0; round < 8; round++) {
                all.append(quiz.sheet(team, round, 0)).append(' ').append(quiz.sheet(team, round, 1)).append(' ');
                all.append(quiz.answer(team, round, 2)).append(' ').append(quiz.answer(NONE, round, 3)).append(' ');
            }
        }
        for (int round = 0; round < 8; round++) {
            all.append(quiz.ofRound(round, 2)).append(' ').append(quiz.ofRound(round, 4)).append(' ');
        }
        return all.toString();
    }
}
