/** For each promise of the document: ordinary inputs, its edges, and wrong inputs. */
public final class PromiseTest {
    private static final int NO_SUCH = -1, BAD_VALUE = -2, BAD_TEXT = -3, TOO_MANY = -4, NOT_POSSIBLE = -5, NONE = -6;
    private static final int NO_MARK = -99;
    private static final int MIN = Integer.MIN_VALUE, MAX = Integer.MAX_VALUE;

    public static void main(String[] args) {
        newObject();
        set();
        team();
        hand();
        joker();
        key();
        mark();
        look();
        guess();
        truth();
        ofTeamScore();
        ofTeamRank();
        ofTeamPrize();
        ofTeamSharedPrize();
        ofTeamRest();
        ofRound();
        sheet();
        answer();
        at();
        count();
        bestJoker();
        most();
        canWin();
        ifLooked();
        wrongMarks();
        put();
        wipe();
        fault();
        undo();
        undoKeepsTheRest();
        save();
        restore();
        fullHouse();
        Checks.end();
    }

    private static void due(String call, long got, long want) {
        Checks.due(call, got, want);
    }

    // 1
    private static void newObject() {
        PubQuizzes quiz = new PubQuizzes();
        due("1: teams", quiz.count(0), 0);
        due("1: open rounds", quiz.count(4), 255);
        due("1: truth", quiz.count(7), NONE);
        due("1: scores", quiz.count(8), 0);
        due("1: ENTRY", quiz.count(9), 10);
        due("1: HOUSE", quiz.count(10), 10);
        due("1: MINUS", quiz.count(11), 0);
        due("1: FINE", quiz.count(12), 2);
        due("1: pad", quiz.count(13), 0);
        due("1: history", quiz.count(14), 0);
        due("1: ofTeam", quiz.ofTeam(0, 0), NO_SUCH);
        for (int round = 0; round < 8; round++) {
            due("1: open", quiz.ofRound(round, 0), 1);
        }
        quiz.team();
        due("1: another object is its own", new PubQuizzes().count(0), 0);
    }

    // 2
    private static void set() {
        PubQuizzes quiz = new PubQuizzes();
        int[] first = {10, 10, 0, 2};
        int[] least = {1, 0, 0, 0};
        int[] greatest = {100, 50, 2, 9};
        for (int s = 0; s < 4; s++) {
            due("2: least " + s, quiz.set(s, least[s]), first[s]);
            due("2: greatest " + s, quiz.set(s, greatest[s]), least[s]);
            due("2: below " + s, quiz.set(s, least[s] - 1), BAD_VALUE);
            due("2: above " + s, quiz.set(s, greatest[s] + 1), BAD_VALUE);
            due("2: kept " + s, quiz.count(9 + s), greatest[s]);
        }
        due("2: setting -1", quiz.set(-1, 1), BAD_VALUE);
        due("2: setting 4", quiz.set(4, 1), BAD_VALUE);
        due("2: setting MIN", quiz.set(MIN, 1), BAD_VALUE);
        due("2: setting MAX", quiz.set(MAX, 1), BAD_VALUE);
        due("2: value MIN", quiz.set(0, MIN), BAD_VALUE);
        due("2: value MAX", quiz.set(3, MAX), BAD_VALUE);
        PubQuizzes other = Checks.withTeams(1);
        other.set(PubQuizzes.ENTRY, 25);
        due("2: entries that were paid stay", other.count(1), 10);
        other.team();
        due("2: the new entry", other.ofTeam(1, 8), 25);
        due("2: same value is a change", other.set(PubQuizzes.ENTRY, 25), 25);
        due("2: history", other.count(14), 4);
    }

    // 3
    private static void team() {
        PubQuizzes quiz = Checks.withTeams(10);
        due("3: eleventh", quiz.team(), TOO_MANY);
        due("3: teams", quiz.count(0), 10);
        due("3: entries", quiz.count(1), 100);
        Checks.key(quiz, 3, "0123456789");
        due("3: TOO_MANY is first", quiz.team(), TOO_MANY);
        PubQuizzes other = Checks.withTeams(2);
        Checks.hand(other, 0, 0, "0123456789");
        due("3: after a sheet", other.team(), 2);
        Checks.key(other, 7, "0123456789");
        due("3: after a key", other.team(), NOT_POSSIBLE);
        due("3: teams", other.count(0), 3);
        other.undo();
        due("3: the key undone", other.team(), 3);
    }

    // 4
    private static void hand() {
        PubQuizzes quiz = Checks.withTeams(2);
        due("4: all", Checks.hand(quiz, 0, 0, "0123456789"), 10);
        due("4: pad is emptied", quiz.count(13), 0);
        due("4: none", Checks.hand(quiz, 1, 0, "----------"), 0);
        due("4: some", Checks.hand(quiz, 1, 7, "9--0-5---1"), 4);
        due("4: again", Checks.hand(quiz, 0, 0, "0123456789"), NOT_POSSIBLE);
        due("4: pad is kept", quiz.count(13), 10);
        due("4: team 2", quiz.hand(2, 0), NO_SUCH);
        due("4: team -1", quiz.hand(-1, 0), NO_SUCH);
        due("4: team NONE", quiz.hand(NONE, 0), NO_SUCH);
        due("4: team MAX", quiz.hand(MAX, 0), NO_SUCH);
        due("4: team MIN", quiz.hand(MIN, 0), NO_SUCH);
        due("4: round 8", quiz.hand(0, 8), NO_SUCH);
        due("4: round -1", quiz.hand(0, -1), NO_SUCH);
        due("4: round MAX", quiz.hand(0, MAX), NO_SUCH);
        due("4: nine signs", Checks.hand(quiz, 0, 1, "012345678"), BAD_TEXT);
        due("4: pad is kept", quiz.count(13), 9);
        due("4: eleven signs", Checks.hand(quiz, 0, 1, "01234567890"), BAD_TEXT);
        due("4: sign /", Checks.hand(quiz, 0, 1, "012345678/"), BAD_TEXT);
        due("4: sign :", Checks.hand(quiz, 0, 1, ":123456789"), BAD_TEXT);
        due("4: no text, sheet in", Checks.hand(quiz, 0, 0, ""), BAD_TEXT);
        due("4: no text, no team", quiz.hand(2, 0), NO_SUCH);
        Checks.key(quiz, 1, "0000000000");
        due("4: not open", Checks.hand(quiz, 0, 1, "0123456789"), NOT_POSSIBLE);
        due("4: no sheet came of it", quiz.ofTeam(0, 6), 1);
        due("4: sheets of 1", quiz.ofTeam(1, 6), 129);
    }

    // 5
    private static void joker() {
        PubQuizzes quiz = Checks.withTeams(4);
        due("5: first", quiz.joker(0, 3), 1);
        due("5: second", quiz.joker(1, 3), 2);
        due("5: another round", quiz.joker(2, 7), 1);
        due("5: again", quiz.joker(0, 3), NOT_POSSIBLE);
        due("5: again, elsewhere", quiz.joker(0, 4), NOT_POSSIBLE);
        due("5: team 4", quiz.joker(4, 0), NO_SUCH);
        due("5: team -1", quiz.joker(-1, 0), NO_SUCH);
        due("5: team MIN", quiz.joker(MIN, 0), NO_SUCH);
        due("5: round 8", quiz.joker(3, 8), NO_SUCH);
        due("5: round -1", quiz.joker(3, -1), NO_SUCH);
        due("5: round MAX", quiz.joker(3, MAX), NO_SUCH);
        Checks.hand(quiz, 3, 5, "----------");
        due("5: sheet is in", quiz.joker(3, 5), NOT_POSSIBLE);
        Checks.key(quiz, 6, "0000000000");
        due("5: not open", quiz.joker(3, 6), NOT_POSSIBLE);
        due("5: round 0", quiz.joker(3, 0), 1);
        due("5: of team 3", quiz.ofTeam(3, 3), 0);
        due("5: of team 2", quiz.ofTeam(2, 3), 7);
    }

    // 6
    private static void key() {
        PubQuizzes quiz = Checks.withTeams(3);
        Checks.hand(quiz, 0, 2, "0123456789");
        Checks.hand(quiz, 2, 2, "----------");
        Checks.hand(quiz, 1, 3, "----------");
        due("6: two sheets", Checks.key(quiz, 2, "0123456789"), 2);
        due("6: pad is emptied", quiz.count(13), 0);
        due("6: no sheets", Checks.key(quiz, 0, "9876543210"), 0);
        due("6: told", Checks.key(quiz, 2, "0123456789"), NOT_POSSIBLE);
        due("6: pad is kept", quiz.count(13), 10);
        due("6: round 8", quiz.key(8), NO_SUCH);
        due("6: round -1", quiz.key(-1), NO_SUCH);
        due("6: round MIN", quiz.key(MIN), NO_SUCH);
        due("6: nothing at the end", Checks.key(quiz, 1, "012345678-"), BAD_TEXT);
        due("6: nothing first", Checks.key(quiz, 1, "-123456789"), BAD_TEXT);
        due("6: nine digits", Checks.key(quiz, 1, "123456789"), BAD_TEXT);
        due("6: eleven digits", Checks.key(quiz, 1, "12345678901"), BAD_TEXT);
        due("6: a letter", Checks.key(quiz, 1, "12345a7890"), BAD_TEXT);
        due("6: BAD_TEXT is before NOT_POSSIBLE", quiz.key(2), BAD_TEXT);
        due("6: NO_SUCH is before BAD_TEXT", quiz.key(8), NO_SUCH);
        due("6: open rounds", quiz.count(4), 255 - 4 - 1);
    }

    // 7
    private static void mark() {
        PubQuizzes quiz = Checks.withTeams(3);
        Checks.hand(quiz, 0, 0, "0000000000");
        Checks.hand(quiz, 1, 0, "0000011111");
        due("7: round is open", quiz.mark(1, 0, 0, 5), NOT_POSSIBLE);
        Checks.key(quiz, 0, "0000000000");
        due("7: marker 3", quiz.mark(3, 0, 0, 5), NO_SUCH);
        due("7: marker -1", quiz.mark(-1, 0, 0, 5), NO_SUCH);
        due("7: marker NONE", quiz.mark(NONE, 0, 0, 5), NO_SUCH);
        due("7: team 3", quiz.mark(0, 3, 0, 5), NO_SUCH);
        due("7: team MIN", quiz.mark(0, MIN, 0, 5), NO_SUCH);
        due("7: both 3", quiz.mark(3, 3, 0, 5), NO_SUCH);
        due("7: round 8", quiz.mark(1, 0, 8, 5), NO_SUCH);
        due("7: round -1", quiz.mark(1, 0, -1, 11), NO_SUCH);
        due("7: itself", quiz.mark(0, 0, 0, 5), BAD_VALUE);
        due("7: itself, in an open round", quiz.mark(0, 0, 1, 5), BAD_VALUE);
        due("7: 11", quiz.mark(1, 0, 0, 11), BAD_VALUE);
        due("7: -21", quiz.mark(1, 0, 0, -21), BAD_VALUE);
        due("7: MAX, no sheet", quiz.mark(1, 2, 0, MAX), BAD_VALUE);
        due("7: MIN", quiz.mark(1, 0, 0, MIN), BAD_VALUE);
        due("7: no sheet", quiz.mark(1, 2, 0, 0), NOT_POSSIBLE);
        due("7: 10", quiz.mark(1, 0, 0, 10), 1);
        due("7: -20", quiz.mark(2, 1, 0, -20), 1);
        due("7: told", quiz.mark(2, 0, 0, 10), NOT_POSSIBLE);
        due("7: its mark", quiz.sheet(1, 0, 0), 80);
        due("7: its marker", quiz.sheet(1, 0, 1), 2);
        quiz.look(1, 0);
        due("7: looked at", quiz.mark(0, 1, 0, 5), NOT_POSSIBLE);
    }

    // 8
    private static void look() {
        PubQuizzes quiz = Checks.withTeams(3);
        Checks.hand(quiz, 0, 0, "00000001--");
        Checks.hand(quiz, 1, 0, "0000000000");
        due("8: open", quiz.look(0, 0), NOT_POSSIBLE);
        Checks.key(quiz, 0, "0000000000");
        due("8: not told", quiz.look(0, 0), NOT_POSSIBLE);
        quiz.set(PubQuizzes.MINUS, 2);
        quiz.mark(2, 0, 0, 6);
        quiz.mark(2, 1, 0, 10);
        due("8: team 3", quiz.look(3, 0), NO_SUCH);
        due("8: team -1", quiz.look(-1, 0), NO_SUCH);
        due("8: round 8", quiz.look(0, 8), NO_SUCH);
        due("8: round MIN", quiz.look(0, MIN), NO_SUCH);
        due("8: no sheet", quiz.look(2, 0), NOT_POSSIBLE);
        due("8: wrong", quiz.look(0, 0), 1);
        due("8: a fine", quiz.ofTeam(2, 4), 1);
        due("8: no other fine", quiz.count(5), 1);
        due("8: true mark", quiz.sheet(0, 0, 0), 105);
        due("8: still its marker", quiz.sheet(0, 0, 1), 2);
        due("8: right", quiz.look(1, 0), 0);
        due("8: no fine", quiz.ofTeam(2, 4), 1);
        due("8: again", quiz.look(1, 0), NOT_POSSIBLE);
        quiz.set(PubQuizzes.MINUS, 0);
        due("8: by MINUS as it was then", quiz.sheet(0, 0, 0), 105);
        due("8: not looked at twice", quiz.look(0, 0), NOT_POSSIBLE);
        due("8: looks", quiz.count(6), 2);
    }

    // 9
    private static void guess() {
        PubQuizzes quiz = Checks.withTeams(2);
        due("9: first", quiz.guess(0, 0), NONE);
        due("9: latest", quiz.guess(0, 9999), 0);
        due("9: same", quiz.guess(0, 9999), 9999);
        due("9: counts", quiz.ofTeam(0, 5), 9999);
        due("9: other", quiz.ofTeam(1, 5), NONE);
        due("9: team 2", quiz.guess(2, 0), NO_SUCH);
        due("9: team -1", quiz.guess(-1, -1), NO_SUCH);
        due("9: 10000", quiz.guess(0, 10000), BAD_VALUE);
        due("9: -1", quiz.guess(0, -1), BAD_VALUE);
        due("9: MIN", quiz.guess(0, MIN), BAD_VALUE);
        quiz.truth(3);
        due("9: truth is told", quiz.guess(1, 3), NOT_POSSIBLE);
        due("9: BAD_VALUE first", quiz.guess(1, 10000), BAD_VALUE);
        due("9: NO_SUCH first", quiz.guess(2, 10000), NO_SUCH);
    }

    // 10
    private static void truth() {
        PubQuizzes quiz = Checks.withTeams(3);
        quiz.guess(0, 4);
        quiz.guess(0, 5);
        quiz.guess(2, 5);
        due("10: 10000", quiz.truth(10000), BAD_VALUE);
        due("10: -1", quiz.truth(-1), BAD_VALUE);
        due("10: NONE", quiz.truth(NONE), BAD_VALUE);
        due("10: 0", quiz.truth(0), 2);
        due("10: told", quiz.truth(0), NOT_POSSIBLE);
        due("10: BAD_VALUE first", quiz.truth(MAX), BAD_VALUE);
        due("10: is", quiz.count(7), 0);
        due("10: 9999, without teams", new PubQuizzes().truth(9999), 0);
    }

    // 11
    private static void ofTeamScore() {
        PubQuizzes quiz = Checks.withTeams(2);
        quiz.joker(0, 1);
        Checks.round(quiz, 0, 7, 3);
        Checks.round(quiz, 1, 4, 6);
        due("11.0: 7 + 2 * 4", quiz.ofTeam(0, 0), 1015);
        due("11.0: 3 + 6", quiz.ofTeam(1, 0), 1009);
        Checks.hand(quiz, 0, 2, "1111111111");
        Checks.hand(quiz, 1, 2, "1111111111");
        quiz.set(PubQuizzes.MINUS, 2);
        Checks.key(quiz, 2, "0000000000");
        due("11.0: no mark yet", quiz.ofTeam(0, 0), 1015);
        quiz.mark(1, 0, 2, 10);
        quiz.look(0, 2);
        due("11.0: minus 20", quiz.ofTeam(0, 0), 995);
        due("11.0: a fine", quiz.ofTeam(1, 0), 1007);
        quiz.set(PubQuizzes.FINE, 9);
        due("11.0: FINE as it is now", quiz.ofTeam(1, 0), 1000);
        quiz.set(PubQuizzes.MINUS, 0);
        due("11.0: MINUS does not matter", quiz.ofTeam(0, 0), 995);
    }

    private static void ofTeamRank() {
        PubQuizzes quiz = Checks.withTeams(5);
        Checks.round(quiz, 0, 5, 7, 5, 5, 3);
        int[] before = {2, 1, 2, 2, 5};
        quiz.guess(0, 90);
        quiz.guess(2, 111);
        quiz.guess(4, 100);
        for (int team = 0; team < 5; team++) {
            due("11.1: before the truth", quiz.ofTeam(team, 1), before[team]);
        }
        due("11.9: tied", quiz.ofTeam(2, 9), 1 + 8);
        due("11.9: alone", quiz.ofTeam(1, 9), 0);
        quiz.truth(100);
        int[] after = {2, 1, 3, 4, 5};
        for (int team = 0; team < 5; team++) {
            due("11.1: after the truth", quiz.ofTeam(team, 1), after[team]);
            due("11.9: none is tied", quiz.ofTeam(team, 9), 0);
        }
        PubQuizzes far = Checks.withTeams(3);
        far.guess(1, 9999);
        far.truth(0);
        due("11.1: without a guess is farther than any", far.ofTeam(0, 1), 2);
        due("11.1: the farthest guess", far.ofTeam(1, 1), 1);
        due("11.9: both without a guess", far.ofTeam(0, 9), 4);
        PubQuizzes sides = Checks.withTeams(2);
        sides.guess(0, 40);
        sides.guess(1, 60);
        sides.truth(50);
        due("11.9: as near from both sides", sides.ofTeam(0, 9), 2);
    }

    private static void ofTeamPrize() {
        PubQuizzes one = Checks.withTeams(1);
        due("11.2: alone", one.ofTeam(0, 2), 9);
        PubQuizzes two = Checks.withTeams(2);
        two.set(PubQuizzes.HOUSE, 15);
        Checks.round(two, 0, 1, 2);
        // The house keeps 3 of 20 coins; 30 hundredths of 17 are 5.
        due("11.2: second of two", two.ofTeam(0, 2), 5);
        due("11.2: first of two", two.ofTeam(1, 2), 12);
        PubQuizzes three = new PubQuizzes();
        three.set(PubQuizzes.ENTRY, 100);
        three.set(PubQuizzes.HOUSE, 0);
        for (int i = 0; i < 3; i++) {
            three.team();
        }
        Checks.round(three, 0, 1, 2, 3);
        due("11.2: third of three", three.ofTeam(0, 2), 30);
        due("11.2: second of three", three.ofTeam(1, 2), 90);
        due("11.2: first of three", three.ofTeam(2, 2), 180);
        PubQuizzes five = Checks.withTeams(5);
        Checks.round(five, 0, 9, 8, 7, 6, 5);
        // The pot is 45: 13 for the second, 4 for the third.
        int[] prizes = {28, 13, 4, 0, 0};
        for (int team = 0; team < 5; team++) {
            due("11.2: of five", five.ofTeam(team, 2), prizes[team]);
        }
        five.set(PubQuizzes.HOUSE, 0);
        due("11.2: as things are", five.ofTeam(0, 2), 30);
    }

    private static void ofTeamSharedPrize() {
        PubQuizzes quiz = Checks.withTeams(5);
        Checks.round(quiz, 0, 4, 9, 9, 4, 4);
        // The pot is 45: 28 and 13 for two, 4 for three.
        int[] prizes = {2, 21, 20, 1, 1};
        for (int team = 0; team < 5; team++) {
            due("11.2: shared", quiz.ofTeam(team, 2), prizes[team]);
        }
        PubQuizzes ten = Checks.withTeams(10);
        ten.set(PubQuizzes.HOUSE, 3);
        for (int team = 0; team < 10; team++) {
            due("11.2: 97 for ten", ten.ofTeam(team, 2), team < 7 ? 10 : 9);
        }
        PubQuizzes third = Checks.withTeams(4);
        Checks.round(third, 0, 1, 1, 9, 8);
        // The pot is 36: 3 for two.
        due("11.2: the third place, the lower", third.ofTeam(0, 2), 2);
        due("11.2: the third place, the higher", third.ofTeam(1, 2), 1);
        due("11.2: first", third.ofTeam(2, 2), 23);
        due("11.2: second", third.ofTeam(3, 2), 10);
    }

    private static void ofTeamRest() {
        PubQuizzes quiz = Checks.withTeams(3);
        quiz.joker(1, 7);
        Checks.hand(quiz, 1, 0, "----------");
        Checks.hand(quiz, 1, 7, "----------");
        Checks.key(quiz, 7, "0000000000");
        quiz.mark(0, 1, 7, 4);
        due("11.3: its joker", quiz.ofTeam(1, 3), 7);
        due("11.3: no joker", quiz.ofTeam(0, 3), NONE);
        due("11.4: fines", quiz.ofTeam(0, 4), 0);
        quiz.look(1, 7);
        due("11.4: a fine", quiz.ofTeam(0, 4), 1);
        due("11.6: sheets", quiz.ofTeam(1, 6), 129);
        due("11.7: told", quiz.ofTeam(1, 7), 128);
        due("11.6: no sheets", quiz.ofTeam(0, 6), 0);
        Checks.key(quiz, 0, "0000000000");
        quiz.mark(2, 1, 0, 0);
        due("11.7: both told", quiz.ofTeam(1, 7), 129);
        due("11.8: entry", quiz.ofTeam(2, 8), 10);
        due("11: what 10", quiz.ofTeam(0, 10), BAD_VALUE);
        due("11: what -1", quiz.ofTeam(0, -1), BAD_VALUE);
        due("11: what MIN", quiz.ofTeam(0, MIN), BAD_VALUE);
        due("11: team 3", quiz.ofTeam(3, 0), NO_SUCH);
        due("11: team -1", quiz.ofTeam(-1, 10), NO_SUCH);
        due("11: team MAX", quiz.ofTeam(MAX, 0), NO_SUCH);
    }

    // 12
    private static void ofRound() {
        PubQuizzes quiz = new PubQuizzes();
        due("12.5: without teams", quiz.ofRound(0, 5), NONE);
        for (int i = 0; i < 4; i++) {
            quiz.team();
        }
        due("12.5: no marks", quiz.ofRound(0, 5), 100);
        quiz.joker(1, 0);
        quiz.joker(3, 0);
        Checks.round(quiz, 0, 8, 5, NO_MARK, 3);
        due("12.0: not open", quiz.ofRound(0, 0), 0);
        due("12.0: open", quiz.ofRound(1, 0), 1);
        due("12.1: sheets", quiz.ofRound(0, 1), 11);
        due("12.2: jokers", quiz.ofRound(0, 2), 10);
        due("12.3: told", quiz.ofRound(0, 3), 11);
        due("12.4: no looks", quiz.ofRound(0, 4), 0);
        due("12.5: with the joker", quiz.ofRound(0, 5), 110);
        quiz.look(3, 0);
        due("12.4: looks", quiz.ofRound(0, 4), 8);
        Checks.hand(quiz, 2, 1, "0123456789");
        due("12.1: sheet in", quiz.ofRound(1, 1), 4);
        due("12.3: not told", quiz.ofRound(1, 3), 0);
        due("12.2: no jokers", quiz.ofRound(1, 2), 0);
        due("12: what 6", quiz.ofRound(0, 6), BAD_VALUE);
        due("12: what -1", quiz.ofRound(7, -1), BAD_VALUE);
        due("12: round 8", quiz.ofRound(8, 0), NO_SUCH);
        due("12: round -1", quiz.ofRound(-1, 9), NO_SUCH);
        due("12: round MIN", quiz.ofRound(MIN, 0), NO_SUCH);
        PubQuizzes below = Checks.withTeams(2);
        below.joker(0, 0);
        below.joker(1, 0);
        Checks.round(below, 0, -20, -10);
        due("12.5: all below 0", below.ofRound(0, 5), 80);
        PubQuizzes first = Checks.withTeams(2);
        Checks.round(first, 0, 4, 3);
        due("12.5: the first team's", first.ofRound(0, 5), 104);
    }

    // 13
    private static void sheet() {
        PubQuizzes quiz = Checks.withTeams(2);
        quiz.joker(0, 0);
        Checks.hand(quiz, 0, 0, "0123-5678-");
        due("13.0: not told", quiz.sheet(0, 0, 0), NONE);
        due("13.1: not told", quiz.sheet(0, 0, 1), NONE);
        due("13.2: not told", quiz.sheet(0, 0, 2), 100);
        due("13.3: open", quiz.sheet(0, 0, 3), NONE);
        due("13.4: answers", quiz.sheet(0, 0, 4), 8);
        Checks.key(quiz, 0, "0123456700");
        due("13.3: true mark", quiz.sheet(0, 0, 3), 107);
        quiz.mark(1, 0, 0, -3);
        due("13.0: told", quiz.sheet(0, 0, 0), 97);
        due("13.1: told by", quiz.sheet(0, 0, 1), 1);
        due("13.2: doubled", quiz.sheet(0, 0, 2), 94);
        due("13.3: not the told one", quiz.sheet(0, 0, 3), 107);
        quiz.set(PubQuizzes.MINUS, 2);
        due("13.3: MINUS as it is now", quiz.sheet(0, 0, 3), 105);
        quiz.look(0, 0);
        due("13.0: looked at", quiz.sheet(0, 0, 0), 105);
        due("13.2: looked at", quiz.sheet(0, 0, 2), 110);
        due("13.1: still told by", quiz.sheet(0, 0, 1), 1);
        quiz.set(PubQuizzes.MINUS, 1);
        due("13.3: after the look", quiz.sheet(0, 0, 3), 106);
        due("13.0: stays", quiz.sheet(0, 0, 0), 105);
        due("13: what 5", quiz.sheet(0, 0, 5), BAD_VALUE);
        due("13: what -1", quiz.sheet(0, 0, -1), BAD_VALUE);
        due("13: no sheet", quiz.sheet(1, 0, 5), NO_SUCH);
        due("13: team 2", quiz.sheet(2, 0, 0), NO_SUCH);
        due("13: team -1", quiz.sheet(-1, 0, 0), NO_SUCH);
        due("13: round 8", quiz.sheet(0, 8, 0), NO_SUCH);
        due("13: round MIN", quiz.sheet(0, MIN, 0), NO_SUCH);
        Checks.hand(quiz, 1, 3, "0-2-------");
        Checks.key(quiz, 3, "0030000000");
        quiz.mark(0, 1, 3, 4);
        int[] unlike = {104, 0, 104, 100, 2};
        for (int what = 0; what < 5; what++) {
            due("13: team 1, round 3", quiz.sheet(1, 3, what), unlike[what]);
        }
        PubQuizzes worst = Checks.withTeams(2);
        worst.set(PubQuizzes.MINUS, 2);
        Checks.hand(worst, 0, 0, "1111111111");
        Checks.key(worst, 0, "0000000000");
        due("13.3: -20", worst.sheet(0, 0, 3), 80);
    }

    // 14
    private static void answer() {
        PubQuizzes quiz = Checks.withTeams(2);
        String text = "98-6543-10";
        Checks.hand(quiz, 1, 7, text);
        due("14: no key", quiz.answer(NONE, 7, 0), NO_SUCH);
        Checks.key(quiz, 7, "0123456789");
        for (int question = 0; question < 10; question++) {
            char sign = text.charAt(question);
            due("14: sheet", quiz.answer(1, 7, question), sign == '-' ? NONE : sign - '0');
            due("14: key", quiz.answer(NONE, 7, question), question);
        }
        due("14: question 10", quiz.answer(1, 7, 10), BAD_VALUE);
        due("14: question -1", quiz.answer(NONE, 7, -1), BAD_VALUE);
        due("14: question MAX", quiz.answer(1, 7, MAX), BAD_VALUE);
        due("14: no sheet", quiz.answer(0, 7, 10), NO_SUCH);
        due("14: no key", quiz.answer(NONE, 6, 10), NO_SUCH);
        due("14: team 2", quiz.answer(2, 7, 0), NO_SUCH);
        due("14: team -1", quiz.answer(-1, 7, 0), NO_SUCH);
        due("14: team -5", quiz.answer(-5, 7, 0), NO_SUCH);
        due("14: team -7", quiz.answer(-7, 7, 0), NO_SUCH);
        due("14: round 8", quiz.answer(1, 8, 0), NO_SUCH);
        due("14: key of round 8", quiz.answer(NONE, 8, 0), NO_SUCH);
        due("14: key of round -1", quiz.answer(NONE, -1, 0), NO_SUCH);
    }

    // 15
    private static void at() {
        PubQuizzes quiz = Checks.withTeams(5);
        due("15: -1", quiz.at(-1), NO_SUCH);
        due("15: 5", quiz.at(5), NO_SUCH);
        due("15: MIN", quiz.at(MIN), NO_SUCH);
        due("15: MAX", quiz.at(MAX), NO_SUCH);
        for (int place = 0; place < 5; place++) {
            due("15: all tied", quiz.at(place), place);
        }
        Checks.round(quiz, 0, 3, 9, 3, 10, 9);
        int[] order = {3, 1, 4, 0, 2};
        for (int place = 0; place < 5; place++) {
            due("15: by ranks", quiz.at(place), order[place]);
        }
        quiz.guess(4, 7);
        quiz.guess(2, 0);
        quiz.truth(7);
        int[] settled = {3, 4, 1, 2, 0};
        for (int place = 0; place < 5; place++) {
            due("15: by the guesses", quiz.at(place), settled[place]);
        }
        due("15: without teams", new PubQuizzes().at(0), NO_SUCH);
    }

    // 16
    private static void count() {
        PubQuizzes quiz = Checks.withTeams(3);
        quiz.set(PubQuizzes.ENTRY, 7);
        quiz.team();
        quiz.set(PubQuizzes.HOUSE, 29);
        due("16.0: teams", quiz.count(0), 4);
        due("16.1: entries", quiz.count(1), 37);
        due("16.2: house, rounded down", quiz.count(2), 10);
        due("16.3: pot", quiz.count(3), 27);
        Checks.round(quiz, 0, 3, 5, 3, 0);
        Checks.round(quiz, 7);
        due("16.4: open rounds", quiz.count(4), 126);
        due("16.5: fines", quiz.count(5), 0);
        due("16.6: looks", quiz.count(6), 0);
        due("16.8: unlike scores", quiz.count(8), 3);
        quiz.set(PubQuizzes.MINUS, 1);
        quiz.look(0, 0);
        due("16.6: a look", quiz.count(6), 1);
        due("16.5: told truly", quiz.count(5), 0);
        Checks.hand(quiz, 0, 1, "1---------");
        Checks.key(quiz, 1, "0000000000");
        quiz.mark(3, 0, 1, 0);
        quiz.look(0, 1);
        due("16.5: a fine", quiz.count(5), 1);
        due("16.6: two looks", quiz.count(6), 2);
        quiz.truth(4321);
        due("16.7: truth", quiz.count(7), 4321);
        due("16.8: all unlike", quiz.count(8), 4);
        due("16.9: ENTRY", quiz.count(9), 7);
        due("16.10: HOUSE", quiz.count(10), 29);
        due("16.11: MINUS", quiz.count(11), 1);
        due("16.12: FINE", quiz.count(12), 2);
        Checks.pad(quiz, "abc");
        due("16.13: pad", quiz.count(13), 3);
        due("16.14: history", quiz.count(14), 6);
        due("16: 15", quiz.count(15), BAD_VALUE);
        due("16: -1", quiz.count(-1), BAD_VALUE);
        due("16: MIN", quiz.count(MIN), BAD_VALUE);
        due("16: MAX", quiz.count(MAX), BAD_VALUE);
    }

    // 17
    private static void bestJoker() {
        PubQuizzes quiz = Checks.withTeams(2);
        due("17: nothing yet", quiz.bestJoker(0, 0), 0);
        due("17: nothing yet", quiz.bestJoker(0, 1), 1000);
        quiz.joker(0, 0);
        Checks.round(quiz, 0, 2, -5);
        Checks.round(quiz, 1, 6, -4);
        Checks.round(quiz, 2, 6, -3);
        due("17: the lowest of two", quiz.bestJoker(0, 0), 1);
        due("17: the joker put elsewhere", quiz.bestJoker(0, 1), 1020);
        due("17: nothing changed", quiz.ofTeam(0, 3), 0);
        due("17: a round without a mark", quiz.bestJoker(1, 0), 3);
        due("17: not put", quiz.bestJoker(1, 1), 988);
        quiz.look(1, 0);
        due("17: with a fine", quiz.bestJoker(0, 1), 1018);
        for (int round = 3; round < 8; round++) {
            Checks.round(quiz, round, 0, -1 - round);
        }
        due("17: all below 0 or 0", quiz.bestJoker(1, 0), 0);
        due("17: what 2", quiz.bestJoker(0, 2), BAD_VALUE);
        due("17: what -1", quiz.bestJoker(0, -1), BAD_VALUE);
        due("17: team 2", quiz.bestJoker(2, 0), NO_SUCH);
        due("17: team -1", quiz.bestJoker(-1, 2), NO_SUCH);
    }

    // 18
    private static void most() {
        PubQuizzes quiz = Checks.withTeams(3);
        due("18: all open, no joker", quiz.most(0), 1090);
        quiz.joker(0, 0);
        due("18: all open, joker put", quiz.most(0), 1090);
        Checks.hand(quiz, 0, 0, "----------");
        due("18: sheet in, doubled", quiz.most(0), 1090);
        Checks.hand(quiz, 1, 0, "1111111111");
        due("18: sheet in", quiz.most(1), 1090);
        Checks.key(quiz, 0, "0000000000");
        due("18: not told, doubled", quiz.most(0), 1090);
        due("18: not told", quiz.most(1), 1090);
        due("18: no sheet, not open", quiz.most(2), 1080);
        quiz.mark(1, 0, 0, 4);
        quiz.mark(0, 1, 0, -4);
        due("18: told, doubled", quiz.most(0), 1078);
        due("18: told", quiz.most(1), 1076);
        quiz.look(1, 0);
        due("18: a fine", quiz.most(0), 1076);
        for (int round = 1; round < 7; round++) {
            Checks.key(quiz, round, "0000000000");
        }
        due("18: one open", quiz.most(2), 1020);
        Checks.hand(quiz, 2, 7, "----------");
        due("18: the joker too late", quiz.most(2), 1010);
        due("18: put on a closed round", quiz.most(0), 1016);
        Checks.key(quiz, 7, "0000000000");
        due("18: only fines and marks", quiz.most(0), 1006);
        due("18: a mark to come", quiz.most(2), 1010);
        PubQuizzes last = Checks.withTeams(2);
        for (int round = 0; round < 8; round += 2) {
            Checks.key(last, round, "0000000000");
        }
        Checks.hand(last, 1, 7, "----------");
        due("18: an open round before a sheet", last.most(1), 1050);
        due("18: team 3", quiz.most(3), NO_SUCH);
        due("18: team -1", quiz.most(-1), NO_SUCH);
        due("18: team MAX", quiz.most(MAX), NO_SUCH);
    }

    // 19
    private static void canWin() {
        PubQuizzes quiz = Checks.withTeams(1);
        due("19: alone", quiz.canWin(), 1);
        quiz.team();
        quiz.team();
        due("19: all", quiz.canWin(), 7);
        for (int round = 0; round < 7; round++) {
            Checks.round(quiz, round, round < 2 ? 10 : 0, NO_MARK, NO_MARK);
        }
        due("19: 20 and the joker yet", quiz.canWin(), 7);
        Checks.hand(quiz, 1, 7, "----------");
        due("19: no joker any more", quiz.canWin(), 5);
        Checks.hand(quiz, 2, 7, "----------");
        due("19: only the first one", quiz.canWin(), 1);
        Checks.key(quiz, 7, "0000000000");
        due("19: one mark to come is not enough", quiz.canWin(), 1);
        PubQuizzes tied = Checks.withTeams(2);
        for (int round = 0; round < 8; round++) {
            Checks.round(tied, round, 1, 1);
        }
        tied.guess(0, 0);
        tied.truth(0);
        due("19: the greatest score, not the first rank", tied.canWin(), 3);
        due("19: without teams", new PubQuizzes().canWin(), 0);
    }

    // 20
    private static void ifLooked() {
        PubQuizzes quiz = Checks.withTeams(3);
        quiz.joker(0, 0);
        Checks.hand(quiz, 0, 0, "0001111111");
        Checks.hand(quiz, 1, 0, "000000----");
        Checks.hand(quiz, 2, 0, "0000000000");
        Checks.key(quiz, 0, "0000000000");
        quiz.mark(1, 0, 0, 9);
        quiz.mark(0, 1, 0, 6);
        due("20: doubled", quiz.ifLooked(0), 1006);
        due("20: a fine", quiz.ifLooked(1), 1004);
        due("20: no mark, no look", quiz.ifLooked(2), 1000);
        quiz.set(PubQuizzes.MINUS, 1);
        due("20: MINUS as it is now", quiz.ifLooked(0), 992);
        quiz.set(PubQuizzes.FINE, 5);
        due("20: FINE as it is now", quiz.ifLooked(1), 1001);
        due("20: nothing changed", quiz.ofTeam(0, 0), 1018);
        due("20: no look", quiz.count(6), 0);
        quiz.look(0, 0);
        due("20: as the score", quiz.ifLooked(0), quiz.ofTeam(0, 0));
        due("20: with the fine that it has", quiz.ifLooked(1), 1001);
        quiz.set(PubQuizzes.MINUS, 2);
        due("20: not looked at again", quiz.ifLooked(0), 992);
        due("20: no fine more", quiz.ifLooked(1), 1001);
        PubQuizzes other = Checks.withTeams(3);
        other.joker(2, 4);
        Checks.hand(other, 2, 4, "00--------");
        Checks.hand(other, 2, 0, "0---------");
        Checks.hand(other, 1, 7, "0---------");
        for (int round = 0; round < 8; round++) {
            Checks.key(other, round, "0000000000");
        }
        other.mark(1, 2, 4, 7);
        other.mark(0, 2, 0, 1);
        other.mark(0, 1, 7, 0);
        due("20: team 2, round 4", other.ifLooked(2), 1005);
        due("20: team 1, round 7", other.ifLooked(1), 999);
        due("20: one fine", other.ifLooked(0), 998);
        due("20: team 3", quiz.ifLooked(3), NO_SUCH);
        due("20: team -1", quiz.ifLooked(-1), NO_SUCH);
        due("20: team MIN", quiz.ifLooked(MIN), NO_SUCH);
    }

    // 21
    private static void wrongMarks() {
        PubQuizzes quiz = Checks.withTeams(3);
        due("21: none", quiz.wrongMarks(), 0);
        Checks.hand(quiz, 0, 7, "00000001--");
        Checks.hand(quiz, 1, 7, "00000001--");
        Checks.hand(quiz, 2, 7, "00000001--");
        Checks.key(quiz, 7, "0000000000");
        due("21: not told", quiz.wrongMarks(), 0);
        quiz.mark(2, 0, 7, 7);
        quiz.mark(2, 1, 7, 6);
        due("21: one", quiz.wrongMarks(), 1);
        quiz.set(PubQuizzes.MINUS, 1);
        due("21: the other one", quiz.wrongMarks(), 1);
        quiz.set(PubQuizzes.MINUS, 2);
        due("21: both", quiz.wrongMarks(), 2);
        quiz.look(0, 7);
        due("21: looked at", quiz.wrongMarks(), 1);
        quiz.set(PubQuizzes.MINUS, 0);
        due("21: not the one that was looked at", quiz.wrongMarks(), 1);
        quiz.mark(0, 2, 7, 7);
        due("21: a right one", quiz.wrongMarks(), 1);
        PubQuizzes first = Checks.withTeams(2);
        Checks.hand(first, 0, 0, "0---------");
        Checks.key(first, 0, "0000000000");
        first.mark(1, 0, 0, 0);
        due("21: round 0", first.wrongMarks(), 1);
    }

    // 22
    private static void put() {
        PubQuizzes quiz = new PubQuizzes();
        due("22: one", quiz.put('5'), 1);
        due("22: eight", quiz.put(Checks.number("12345678")), 9);
        due("22: in order", quiz.fault(), 9);
        quiz.put('-');
        quiz.team();
        quiz.hand(0, 0);
        int[] signs = {5, 1, 2, 3, 4, 5, 6, 7, 8, NONE};
        for (int question = 0; question < 10; question++) {
            due("22: character", quiz.answer(0, 0, question), signs[question]);
        }
        due("22: 0", quiz.put(0), BAD_VALUE);
        due("22: 32", quiz.put(32), BAD_VALUE);
        due("22: 33", quiz.put(33), 1);
        due("22: 126", quiz.put(126), 2);
        due("22: 127", quiz.put(127), BAD_VALUE);
        due("22: 128", quiz.put(128), BAD_VALUE);
        due("22: 255", quiz.put(255), BAD_VALUE);
        due("22: -1", quiz.put(-1), BAD_VALUE);
        due("22: MIN", quiz.put(Long.MIN_VALUE), BAD_VALUE);
        due("22: MAX", quiz.put(Long.MAX_VALUE), BAD_VALUE);
        due("22: a gap", quiz.put(Checks.number("1") << 16 | '2'), BAD_VALUE);
        due("22: 0 last", quiz.put(Checks.number("12") << 8), BAD_VALUE);
        due("22: a bit far above", quiz.put(1L << 62 | '2'), BAD_VALUE);
        due("22: the sign bit above", quiz.put(1L << 63 | '2'), BAD_VALUE);
        due("22: a bad code among good ones", quiz.put(Checks.number("12 45")), BAD_VALUE);
        due("22: a bad code first", quiz.put(Checks.number(" 2345678")), BAD_VALUE);
        due("22: a code above 127 first", quiz.put(Checks.number("12345678") | 1L << 63), BAD_VALUE);
        due("22: pad is kept", quiz.count(13), 2);
        for (int i = 1; i < 10; i++) {
            due("22: longer", quiz.put(Checks.number("abcdefgh")), 2 + 8 * i);
        }
        due("22: 82", quiz.put(Checks.number("abcdefgh")), TOO_MANY);
        due("22: 81", quiz.put(Checks.number("abcdefg")), TOO_MANY);
        due("22: BAD_VALUE first", quiz.put(Checks.number("abcdef ")), BAD_VALUE);
        due("22: 80", quiz.put(Checks.number("abcdef")), 80);
        due("22: full", quiz.put('a'), TOO_MANY);
        due("22: full", quiz.count(13), 80);
        due("22: no change", quiz.count(14), 2);
    }

    // 23
    private static void wipe() {
        PubQuizzes quiz = new PubQuizzes();
        due("23: empty", quiz.wipe(), 0);
        Checks.pad(quiz, "abc");
        due("23: three", quiz.wipe(), 3);
        due("23: empty then", quiz.count(13), 0);
        due("23: from the start again", quiz.put('5'), 1);
        due("23: no change", quiz.undo(), NOT_POSSIBLE);
    }

    // 24
    private static void fault() {
        PubQuizzes quiz = new PubQuizzes();
        due("24: empty", quiz.fault(), 0);
        String[] texts = {"0", "012345678", "0123456789", "----------", "01234567890", "0123456789x", "x123456789",
            "012345678x", "01234x", "--a-b", "/", ":", "0.1", "012345678901234567890"};
        int[] faults = {1, 9, NONE, NONE, 10, 10, 0, 9, 5, 2, 0, 0, 1, 10};
        for (int i = 0; i < texts.length; i++) {
            Checks.pad(quiz, texts[i]);
            due("24: " + texts[i], quiz.fault(), faults[i]);
        }
    }

    // 25
    private static void undo() {
        PubQuizzes quiz = new PubQuizzes();
        due("25: none", quiz.undo(), NOT_POSSIBLE);
        for (int team = 0; team < 8; team++) {
            quiz.team();
            due("25: at most 6", quiz.count(14), Math.min(team + 1, 6));
        }
        for (int left = 5; left >= 0; left--) {
            due("25: undone", quiz.undo(), left);
            due("25: teams", quiz.count(0), left + 2);
        }
        due("25: dropped", quiz.undo(), NOT_POSSIBLE);
        due("25: teams", quiz.count(0), 2);
        quiz.set(PubQuizzes.FINE, 2);
        due("25: recorded, though nothing is different", quiz.count(14), 1);
        quiz.set(PubQuizzes.FINE, 10);
        quiz.hand(0, 0);
        quiz.guess(0, -1);
        due("25: errors are not recorded", quiz.count(14), 1);
        due("25: back", quiz.undo(), 0);
    }

    private static void undoKeepsTheRest() {
        PubQuizzes quiz = Checks.withTeams(2);
        quiz.joker(0, 0);
        due("25: the joker is a change", quiz.undo(), 2);
        due("25: the joker is back", quiz.ofTeam(0, 3), NONE);
        quiz.joker(0, 0);
        Checks.hand(quiz, 0, 0, "0000000000");
        due("25: pad before", quiz.put('a'), 1);
        quiz.undo();
        due("25: the sheet is not in", quiz.ofTeam(0, 6), 0);
        due("25: pad stays", quiz.count(13), 1);
        Checks.hand(quiz, 0, 0, "0000000000");
        Checks.key(quiz, 0, "0000000000");
        quiz.undo();
        due("25: open again", quiz.ofRound(0, 0), 1);
        Checks.key(quiz, 0, "0000000000");
        quiz.mark(1, 0, 0, 3);
        quiz.look(0, 0);
        quiz.guess(0, 5);
        quiz.truth(5);
        quiz.undo();
        due("25: truth", quiz.count(7), NONE);
        quiz.undo();
        due("25: guess", quiz.ofTeam(0, 5), NONE);
        quiz.undo();
        due("25: mark", quiz.sheet(0, 0, 0), 103);
        due("25: fine", quiz.ofTeam(1, 4), 0);
        due("25: look", quiz.count(6), 0);
        quiz.save(1);
        quiz.undo();
        due("25: marker", quiz.sheet(0, 0, 1), NONE);
        quiz.undo();
        quiz.undo();
        due("25: dropped", quiz.undo(), NOT_POSSIBLE);
        due("25: the joker stays", quiz.ofTeam(0, 3), 0);
        due("25: the slot stays", quiz.restore(1), 2);
        due("25: what it held", quiz.sheet(0, 0, 0), 103);
        quiz.undo();
        due("25: before the restoring", quiz.ofTeam(0, 6), 0);
    }

    // 26
    private static void save() {
        PubQuizzes quiz = new PubQuizzes();
        due("26: no teams", quiz.save(0), 0);
        quiz.team();
        due("26: overwrites", quiz.save(0), 1);
        due("26: slot 1", quiz.save(1), 1);
        due("26: slot 2", quiz.save(2), BAD_VALUE);
        due("26: slot -1", quiz.save(-1), BAD_VALUE);
        due("26: slot MIN", quiz.save(MIN), BAD_VALUE);
        due("26: no change", quiz.count(14), 1);
        quiz.team();
        due("26: what was saved last", quiz.restore(0), 1);
    }

    // 27
    private static void restore() {
        PubQuizzes quiz = Checks.withTeams(3);
        due("27: nothing saved", quiz.restore(0), NOT_POSSIBLE);
        due("27: nothing saved", quiz.restore(1), NOT_POSSIBLE);
        due("27: slot 2", quiz.restore(2), BAD_VALUE);
        due("27: slot -1", quiz.restore(-1), BAD_VALUE);
        due("27: slot MAX", quiz.restore(MAX), BAD_VALUE);
        quiz.set(PubQuizzes.MINUS, 1);
        quiz.joker(2, 5);
        quiz.save(1);
        due("27: the other slot", quiz.restore(0), NOT_POSSIBLE);
        quiz.set(PubQuizzes.MINUS, 2);
        quiz.joker(1, 5);
        Checks.round(quiz, 5, 3, 4, 5);
        quiz.guess(0, 1);
        quiz.truth(1);
        Checks.pad(quiz, "xyz");
        due("27: teams", quiz.restore(1), 3);
        due("27: MINUS", quiz.count(11), 1);
        due("27: joker", quiz.ofRound(5, 2), 4);
        due("27: key", quiz.count(4), 255);
        due("27: sheets", quiz.ofRound(5, 1), 0);
        due("27: marks", quiz.ofRound(5, 3), 0);
        due("27: truth", quiz.count(7), NONE);
        due("27: guess", quiz.ofTeam(0, 5), NONE);
        due("27: pad stays", quiz.count(13), 3);
        due("27: history stays", quiz.count(14), 6);
        quiz.team();
        due("27: the slot keeps it", quiz.restore(1), 3);
        due("27: undone", quiz.undo(), 5);
        due("27: a change", quiz.count(0), 4);
        quiz.undo();
        due("27: undone twice", quiz.count(0), 3);
        quiz.undo();
        due("27: before the first restoring", quiz.count(7), 1);
        PubQuizzes entries = new PubQuizzes();
        entries.set(PubQuizzes.ENTRY, 3);
        entries.team();
        entries.save(0);
        entries.undo();
        entries.undo();
        entries.team();
        due("27: another entry", entries.ofTeam(0, 8), 10);
        entries.restore(0);
        due("27: the entry that was paid", entries.ofTeam(0, 8), 3);
    }

    // All teams, all sheets, all marks wrong, all jokers: the greatest numbers that there are. The
    // pad is not looked after here, so that the calls stay below 512.
    private static void fullHouse() {
        PubQuizzes quiz = new PubQuizzes();
        quiz.set(PubQuizzes.ENTRY, 100);
        quiz.set(PubQuizzes.HOUSE, 50);
        quiz.set(PubQuizzes.MINUS, 2);
        quiz.set(PubQuizzes.FINE, 9);
        for (int team = 0; team < 10; team++) {
            quiz.team();
            quiz.joker(team, 7);
            quiz.guess(team, 1000 * (9 - team));
        }
        for (int round = 0; round < 8; round++) {
            for (int team = 0; team < 10; team++) {
                quiz.put(Checks.number("11111111"));
                quiz.put(Checks.number("11"));
                quiz.hand(team, round);
            }
            quiz.put(Checks.number("00000000"));
            quiz.put(Checks.number("00"));
            quiz.key(round);
            for (int team = 0; team < 10; team++) {
                quiz.mark(team == 9 ? 0 : 9, team, round, 10);
            }
        }
        due("all: tied", quiz.ofTeam(9, 9), 511);
        due("all: wrong marks", quiz.wrongMarks(), 80);
        due("all: if looked, 72 fines", quiz.ifLooked(9), 1000 - 180 - 648);
        due("all: if looked, 8 fines", quiz.ifLooked(0), 1000 - 180 - 72);
        due("all: if looked, no fines", quiz.ifLooked(4), 1000 - 180);
        due("all: most", quiz.most(9), 1090);
        due("all: can win", quiz.canWin(), 1023);
        due("all: truth", quiz.truth(0), 10);
        due("all: unlike scores", quiz.count(8), 1);
        for (int team = 0; team < 10; team++) {
            due("all: settled by the guesses", quiz.ofTeam(team, 1), 10 - team);
        }
        for (int team = 0; team < 10; team++) {
            for (int round = 0; round < 8; round++) {
                due("all: look", quiz.look(team, round), 1);
            }
        }
        due("all: fines", quiz.count(5), 80);
        due("all: looks", quiz.count(6), 80);
        due("all: the least score", quiz.ofTeam(9, 0), 172);
        due("all: first", quiz.at(0), 8);
        due("all: last", quiz.at(9), 9);
        due("all: pot", quiz.count(3), 500);
        due("all: first prize", quiz.ofTeam(8, 2), 300);
        due("all: no prize", quiz.ofTeam(9, 2), 0);
        due("all: best joker", quiz.bestJoker(9, 0), 0);
        due("all: best joker", quiz.bestJoker(9, 1), 172);
        due("all: sheets", quiz.ofRound(7, 1), 1023);
        due("all: jokers", quiz.ofRound(7, 2), 1023);
        due("all: told", quiz.ofRound(7, 3), 1023);
        due("all: looked at", quiz.ofRound(7, 4), 1023);
        due("all: points", quiz.ofRound(7, 5), 60);
        due("all: rounds", quiz.ofTeam(9, 6), 255);
        due("all: rounds told", quiz.ofTeam(9, 7), 255);
        due("all: no team 10", quiz.ofTeam(10, 0), NO_SUCH);
        due("all: eight can win, whatever they guessed", quiz.canWin(), 510);
        due("all: no wrong marks", quiz.wrongMarks(), 0);
    }
}
