/**
 * "It names its errors in the order in which they are checked, and the first one that applies is
 * returned", and "NONE is returned only if no error applies": for each two answers of a method that
 * can apply together, calls to which both apply.
 */
public final class OrderTest {
    private static final int NO_SUCH = -1, BAD_VALUE = -2, BAD_TEXT = -3, TOO_MANY = -4, NOT_POSSIBLE = -5, NONE = -6;
    private static final int MIN = Integer.MIN_VALUE, MAX = Integer.MAX_VALUE;
    private static final String SHEET = "01234-6789", KEY = "0123456789", SHORT = "01234";
    // Numbers that no team has, whatever their lower bits are; a round may bear some of them.
    private static final int[] NO_TEAMS = {-1, 3, 4, 9, 10, 11, 15, 16, 32, 256, 1 << 16, 1 << 29, 1 << 31 | 1, -5, -7, MIN, MAX};
    private static final int[] NO_ROUNDS = {-1, 8, 9, 10, 15, 16, 32, 256, 1 << 16, 1 << 29, 1 << 31 | 1, -5, -6, -7, MIN, MAX};

    public static void main(String[] args) {
        tooManyTeams();
        noSuchTeam();
        noSuchRound();
        noSuchTeamAndNothingElseIsRight();
        noSheet();
        badText();
        badMark();
        badGuess();
        badTruth();
        badPut();
        badSlot();
        noneComesLast();
        Checks.end();
    }

    private static void due(String call, long got, long want) {
        Checks.due(call, got, want);
    }

    /**
     * Three teams. Round 0: its key is told, team 0 has a sheet with a mark at which the house has
     * looked, team 1 one without a mark, team 2 none. Round 1 is open, team 0 has a sheet.
     * The joker of team 0 is on round 2. The pad is empty.
     */
    private static PubQuizzes quiz() {
        PubQuizzes quiz = Checks.withTeams(3);
        quiz.joker(0, 2);
        Checks.hand(quiz, 0, 0, SHEET);
        Checks.hand(quiz, 1, 0, SHEET);
        Checks.hand(quiz, 0, 1, SHEET);
        Checks.key(quiz, 0, KEY);
        quiz.mark(1, 0, 0, 9);
        due("look", quiz.look(0, 0), 0);
        return quiz;
    }

    private static void tooManyTeams() {
        PubQuizzes quiz = Checks.withTeams(10);
        due("team: too many, the key is not told", quiz.team(), TOO_MANY);
        Checks.key(quiz, 0, KEY);
        due("team: too many, and the key is told", quiz.team(), TOO_MANY);
    }

    private static void noSuchTeam() {
        PubQuizzes quiz = quiz();
        Checks.pad(quiz, SHEET);
        for (int team : NO_TEAMS) {
            String of = " of team " + team;
            due("hand" + of, quiz.hand(team, 3), NO_SUCH);
            due("joker" + of, quiz.joker(team, 3), NO_SUCH);
            due("mark" + of, quiz.mark(0, team, 0, 5), NO_SUCH);
            due("mark by" + of, quiz.mark(team, 1, 0, 5), NO_SUCH);
            due("look" + of, quiz.look(team, 0), NO_SUCH);
            due("guess" + of, quiz.guess(team, 5), NO_SUCH);
            due("ofTeam" + of, quiz.ofTeam(team, 0), NO_SUCH);
            due("sheet" + of, quiz.sheet(team, 0, 0), NO_SUCH);
            due("answer" + of, quiz.answer(team, 0, 0), NO_SUCH);
            due("bestJoker" + of, quiz.bestJoker(team, 0), NO_SUCH);
            due("most" + of, quiz.most(team), NO_SUCH);
            due("ifLooked" + of, quiz.ifLooked(team), NO_SUCH);
        }
        due("NONE is a team for answer alone: hand", quiz.hand(NONE, 3), NO_SUCH);
        due("NONE is a team for answer alone: joker", quiz.joker(NONE, 3), NO_SUCH);
        due("NONE is a team for answer alone: mark", quiz.mark(NONE, 1, 0, 5), NO_SUCH);
        due("NONE is a team for answer alone: look", quiz.look(NONE, 0), NO_SUCH);
        due("NONE is a team for answer alone: guess", quiz.guess(NONE, 0), NO_SUCH);
        due("NONE is a team for answer alone: ofTeam", quiz.ofTeam(NONE, 0), NO_SUCH);
        due("NONE is a team for answer alone: sheet", quiz.sheet(NONE, 0, 0), NO_SUCH);
        due("NONE is a team for answer alone: most", quiz.most(NONE), NO_SUCH);
        due("NONE is a team for answer alone: ifLooked", quiz.ifLooked(NONE), NO_SUCH);
        due("NONE is a team for answer alone: bestJoker", quiz.bestJoker(NONE, 0), NO_SUCH);
        due("the pad is not emptied", quiz.count(13), 10);
    }

    private static void noSuchRound() {
        PubQuizzes quiz = quiz();
        Checks.pad(quiz, KEY);
        for (int round : NO_ROUNDS) {
            String of = " of round " + round;
            due("hand" + of, quiz.hand(2, round), NO_SUCH);
            due("joker" + of, quiz.joker(2, round), NO_SUCH);
            due("key" + of, quiz.key(round), NO_SUCH);
            due("mark" + of, quiz.mark(0, 1, round, 5), NO_SUCH);
            due("look" + of, quiz.look(0, round), NO_SUCH);
            due("ofRound" + of, quiz.ofRound(round, 0), NO_SUCH);
            due("sheet" + of, quiz.sheet(0, round, 0), NO_SUCH);
            due("answer" + of, quiz.answer(0, round, 0), NO_SUCH);
            due("answer of the key" + of, quiz.answer(NONE, round, 0), NO_SUCH);
        }
        due("the pad is not emptied", quiz.count(13), 10);
    }

    private static void noSuchTeamAndNothingElseIsRight() {
        PubQuizzes quiz = quiz();
        quiz.truth(1);
        for (String pad : new String[] {"", SHORT, SHEET}) {
            Checks.pad(quiz, pad);
            due("hand: no team, a closed round, pad " + pad, quiz.hand(3, 0), NO_SUCH);
            due("hand: no round, pad " + pad, quiz.hand(0, 8), NO_SUCH);
            due("key: no round, pad " + pad, quiz.key(8), NO_SUCH);
        }
        due("joker: no team, a closed round", quiz.joker(3, 0), NO_SUCH);
        due("joker: no round, the joker is put", quiz.joker(0, 8), NO_SUCH);
        due("mark: no marker, a bad mark, an open round", quiz.mark(3, 0, 1, 11), NO_SUCH);
        due("mark: no team, a bad mark", quiz.mark(0, 3, 0, -21), NO_SUCH);
        due("mark: no round, a bad mark", quiz.mark(0, 1, 8, 11), NO_SUCH);
        due("mark: no round, the same team", quiz.mark(0, 0, 8, 5), NO_SUCH);
        due("mark: no team twice", quiz.mark(3, 3, 0, 5), NO_SUCH);
        due("mark: no marker, the mark is told", quiz.mark(3, 0, 0, 5), NO_SUCH);
        due("look: no team, an open round", quiz.look(3, 1), NO_SUCH);
        due("look: no round", quiz.look(0, 8), NO_SUCH);
        due("guess: no team, a bad guess, the truth is told", quiz.guess(3, 10000), NO_SUCH);
        due("guess: no team, the truth is told", quiz.guess(3, 0), NO_SUCH);
        due("ofTeam: no team, no such number", quiz.ofTeam(3, 10), NO_SUCH);
        due("ofRound: no round, no such number", quiz.ofRound(8, 6), NO_SUCH);
        due("sheet: no team, no such number", quiz.sheet(3, 0, 5), NO_SUCH);
        due("sheet: no round, no such number", quiz.sheet(0, 8, 5), NO_SUCH);
        due("answer: no team, no such question", quiz.answer(3, 0, 10), NO_SUCH);
        due("answer: no round, no such question", quiz.answer(0, 8, -1), NO_SUCH);
        due("answer of the key: no round, no such question", quiz.answer(NONE, 8, -1), NO_SUCH);
        due("bestJoker: no team, no such number", quiz.bestJoker(3, 2), NO_SUCH);
    }

    private static void noSheet() {
        PubQuizzes quiz = quiz();
        due("sheet: none, no such number", quiz.sheet(2, 0, 5), NO_SUCH);
        due("sheet: none, no such number", quiz.sheet(2, 0, -1), NO_SUCH);
        due("sheet: none in an open round", quiz.sheet(2, 1, 3), NO_SUCH);
        due("answer: no sheet, no such question", quiz.answer(2, 0, 10), NO_SUCH);
        due("answer: no sheet, no such question", quiz.answer(2, 0, -1), NO_SUCH);
        due("answer: no key, no such question", quiz.answer(NONE, 1, 10), NO_SUCH);
        due("answer: no key, no such question", quiz.answer(NONE, 1, -1), NO_SUCH);
    }

    private static void badText() {
        PubQuizzes quiz = quiz();
        for (String pad : new String[] {"", SHORT, SHEET + "1", "x123456789"}) {
            Checks.pad(quiz, pad);
            due("hand: a closed round, pad " + pad, quiz.hand(2, 0), BAD_TEXT);
            due("hand: the sheet is in, pad " + pad, quiz.hand(0, 1), BAD_TEXT);
            due("hand: both, pad " + pad, quiz.hand(0, 0), BAD_TEXT);
            due("key: a closed round, pad " + pad, quiz.key(0), BAD_TEXT);
        }
        Checks.pad(quiz, SHEET);
        due("hand: a closed round", quiz.hand(2, 0), NOT_POSSIBLE);
        due("hand: the sheet is in", quiz.hand(0, 1), NOT_POSSIBLE);
        due("hand: both", quiz.hand(0, 0), NOT_POSSIBLE);
        due("key: a sheet, a closed round", quiz.key(0), BAD_TEXT);
        Checks.pad(quiz, KEY);
        due("key: a closed round", quiz.key(0), NOT_POSSIBLE);
    }

    private static void badMark() {
        PubQuizzes quiz = quiz();
        for (int mark : new int[] {-21, 11, 5}) {
            due("mark: itself, open", quiz.mark(0, 0, 1, mark), BAD_VALUE);
            due("mark: itself, no sheet", quiz.mark(2, 2, 0, mark), BAD_VALUE);
            due("mark: itself, told", quiz.mark(0, 0, 0, mark), BAD_VALUE);
            due("mark: itself", quiz.mark(1, 1, 0, mark), BAD_VALUE);
        }
        for (int mark : new int[] {-21, 11, -100, 100, MIN, MAX}) {
            due("mark " + mark + ": open", quiz.mark(1, 0, 1, mark), BAD_VALUE);
            due("mark " + mark + ": no sheet", quiz.mark(1, 2, 0, mark), BAD_VALUE);
            due("mark " + mark + ": told", quiz.mark(1, 0, 0, mark), BAD_VALUE);
            due("mark " + mark, quiz.mark(0, 1, 0, mark), BAD_VALUE);
        }
        due("mark: open", quiz.mark(1, 0, 1, 5), NOT_POSSIBLE);
        due("mark: open, no sheet", quiz.mark(1, 2, 1, 5), NOT_POSSIBLE);
        due("mark: no sheet", quiz.mark(1, 2, 0, 5), NOT_POSSIBLE);
        due("mark: told", quiz.mark(1, 0, 0, 9), NOT_POSSIBLE);
    }

    private static void badGuess() {
        PubQuizzes quiz = quiz();
        quiz.guess(0, 5);
        quiz.truth(5);
        for (int guess : new int[] {-1, 10000, NONE, MIN, MAX}) {
            due("guess: the truth is told, " + guess, quiz.guess(0, guess), BAD_VALUE);
        }
        due("guess: the truth is told", quiz.guess(0, 5), NOT_POSSIBLE);
    }

    private static void badTruth() {
        PubQuizzes quiz = quiz();
        quiz.truth(5);
        for (int truth : new int[] {-1, 10000, NONE, MIN, MAX}) {
            due("truth: it is told, " + truth, quiz.truth(truth), BAD_VALUE);
        }
        due("truth: it is told", quiz.truth(5), NOT_POSSIBLE);
    }

    private static void badPut() {
        PubQuizzes quiz = new PubQuizzes();
        for (int i = 0; i < 10; i++) {
            quiz.put(Checks.number("12345678"));
        }
        due("put: full, no character", quiz.put(0), BAD_VALUE);
        due("put: full, a bad code", quiz.put(' '), BAD_VALUE);
        due("put: full, a bad code above good ones", quiz.put(0x2031323334353637L), BAD_VALUE);
        due("put: full, a bit too high", quiz.put(1L << 16 | '1'), BAD_VALUE);
        due("put: full", quiz.put('1'), TOO_MANY);
    }

    private static void badSlot() {
        PubQuizzes quiz = new PubQuizzes();
        for (int slot : new int[] {-1, 2, 3, NONE, 32, 256, MIN, MAX}) {
            due("restore: nothing is saved, slot " + slot, quiz.restore(slot), BAD_VALUE);
            due("save: slot " + slot, quiz.save(slot), BAD_VALUE);
        }
        due("restore: nothing is saved", quiz.restore(0), NOT_POSSIBLE);
        due("restore: nothing is saved", quiz.restore(1), NOT_POSSIBLE);
    }

    /** NONE would be the answer, if no error applied. */
    private static void noneComesLast() {
        PubQuizzes empty = new PubQuizzes();
        due("ofRound: without teams, no round", empty.ofRound(8, 5), NO_SUCH);
        due("ofRound: without teams, no such number", empty.ofRound(0, 6), BAD_VALUE);
        due("ofTeam: no joker, no team", empty.ofTeam(0, 3), NO_SUCH);
        due("ofTeam: no guess, no team", empty.ofTeam(0, 5), NO_SUCH);
        PubQuizzes quiz = quiz();
        due("guess: none before, a bad guess", quiz.guess(0, 10000), BAD_VALUE);
        due("answer: nothing, no team", quiz.answer(3, 0, 5), NO_SUCH);
        due("sheet: no marker, no team", quiz.sheet(3, 1, 1), NO_SUCH);
        due("sheet: no mark, no sheet", quiz.sheet(2, 0, 0), NO_SUCH);
        due("sheet: no marker, no sheet", quiz.sheet(2, 0, 1), NO_SUCH);
        due("sheet: an open round, no sheet", quiz.sheet(2, 1, 3), NO_SUCH);
        quiz.truth(5);
        due("guess: none before, the truth is told", quiz.guess(0, 5), NOT_POSSIBLE);
    }
}
