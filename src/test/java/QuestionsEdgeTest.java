/** The boundaries of promises 11 to 21, and of the terms about scores, ranks and prizes. */
public final class QuestionsEdgeTest {
    private static final int NO_SUCH = -1, BAD_VALUE = -2, NONE = -6, NOT_POSSIBLE = -5;
    private static final int NO_MARK = -99;
    private static final int MIN = Integer.MIN_VALUE, MAX = Integer.MAX_VALUE;
    private static final String NOTHING = "----------", ONES = "1111111111", ZEROS = "0000000000";

    public static void main(String[] args) {
        numbersOutOfRange();
        points();
        scores();
        distances();
        ranks();
        theHouse();
        prizesOfFewTeams();
        sharedPrizes();
        sharedByAll();
        setsOfTeams();
        setsOfRounds();
        greatestPoints();
        sheets();
        answers();
        places();
        unlikeScores();
        finesAndLooks();
        bestJoker();
        bestJokerOfEachRound();
        mostSheets();
        mostJoker();
        mostOfEachRound();
        canWin();
        ifLooked();
        ifLookedInEachRound();
        wrongMarks();
        Checks.end();
    }

    private static void due(String call, long got, long want) {
        Checks.due(call, got, want);
    }

    // 11, 12, 13, 14, 16, 17: "BAD_VALUE if what is out of range", and the last one that is not
    private static void numbersOutOfRange() {
        PubQuizzes quiz = Checks.withTeams(1);
        Checks.hand(quiz, 0, 0, ONES);
        Checks.key(quiz, 0, ONES);
        for (int what : new int[] {-1, -5, -6, 15, 16, 32, 100, 256, 1 << 16, MIN, MIN + 1, MAX}) {
            due("11: what " + what, quiz.ofTeam(0, what), BAD_VALUE);
            due("12: what " + what, quiz.ofRound(0, what), BAD_VALUE);
            due("13: what " + what, quiz.sheet(0, 0, what), BAD_VALUE);
            due("14: question " + what, quiz.answer(0, 0, what), BAD_VALUE);
            due("14: question " + what + " of the key", quiz.answer(NONE, 0, what), BAD_VALUE);
            due("16: what " + what, quiz.count(what), BAD_VALUE);
            due("17: what " + what, quiz.bestJoker(0, what), BAD_VALUE);
        }
        due("11: the last what", quiz.ofTeam(0, 9), 0);
        due("11: one more", quiz.ofTeam(0, 10), BAD_VALUE);
        due("12: the last what", quiz.ofRound(0, 5), 100);
        due("12: one more", quiz.ofRound(0, 6), BAD_VALUE);
        due("13: the last what", quiz.sheet(0, 0, 4), 10);
        due("13: one more", quiz.sheet(0, 0, 5), BAD_VALUE);
        due("14: the last question", quiz.answer(0, 0, 9), 1);
        due("14: one more", quiz.answer(0, 0, 10), BAD_VALUE);
        due("14: the last question of the key", quiz.answer(NONE, 0, 9), 1);
        due("14: one more of the key", quiz.answer(NONE, 0, 10), BAD_VALUE);
        due("16: the last what", quiz.count(14), 3);
        due("16: one more", quiz.count(15), BAD_VALUE);
        due("17: the last what", quiz.bestJoker(0, 1), 1000);
        due("17: one more", quiz.bestJoker(0, 2), BAD_VALUE);
    }

    // "the mark of its sheet (0 without a sheet or a mark), twice that with its joker"
    private static void points() {
        PubQuizzes quiz = Checks.withTeams(3);
        quiz.joker(0, 0);
        quiz.joker(1, 0);
        quiz.joker(2, 7);
        due("points: no sheet, the joker", quiz.ofTeam(0, 0), 1000);
        Checks.hand(quiz, 0, 0, ONES);
        Checks.hand(quiz, 2, 0, ONES);
        Checks.hand(quiz, 2, 7, ONES);
        due("points: no mark, open", quiz.sheet(0, 0, 2), 100);
        Checks.key(quiz, 0, ONES);
        Checks.key(quiz, 7, ONES);
        due("points: no mark, the key is told", quiz.sheet(0, 0, 2), 100);
        quiz.mark(1, 0, 0, 10);
        quiz.mark(1, 2, 0, -20);
        quiz.mark(1, 2, 7, -20);
        due("points: the greatest", quiz.sheet(0, 0, 2), 120);
        due("points: no joker on this round", quiz.sheet(2, 0, 2), 80);
        due("points: the least", quiz.sheet(2, 7, 2), 60);
        due("points: the mark is not doubled", quiz.sheet(2, 7, 0), 80);
        due("points: without a sheet, with a joker", quiz.ofTeam(1, 0), 1000);
        due("points: together", quiz.ofTeam(2, 0), 940);
        quiz.look(2, 7);
        due("points: of the true mark, too", quiz.sheet(2, 7, 2), 120);
    }

    // "Its score is its points in all rounds, less FINE, as it is now, for each fine that it has"
    private static void scores() {
        PubQuizzes quiz = Checks.withTeams(2);
        quiz.joker(0, 0);
        quiz.joker(1, 7);
        for (int round = 0; round < 8; round++) {
            Checks.round(quiz, round, 10, -20);
        }
        due("the greatest score", quiz.ofTeam(0, 0), 1090);
        due("the least points", quiz.ofTeam(1, 0), 820);
        quiz.set(PubQuizzes.MINUS, 2);
        for (int round = 0; round < 8; round++) {
            due("told wrong", quiz.look(1, round), 1);
        }
        due("fines", quiz.ofTeam(0, 4), 8);
        for (int fine = 0; fine <= 9; fine++) {
            quiz.set(PubQuizzes.FINE, fine);
            due("less FINE as it is now", quiz.ofTeam(0, 0), 1090 - 8 * fine);
            due("no fines", quiz.ofTeam(1, 0), 1000);
        }
    }

    // "if it is the same, the truth is told, and its guess is nearer"; "without a guess is farther"
    private static void distances() {
        for (int truth : new int[] {0, 5000, 9999}) {
            PubQuizzes quiz = Checks.withTeams(4);
            int[] guesses = {NONE, truth == 0 ? 9999 : 0, truth, truth == 0 ? 9998 : 1};
            for (int team = 1; team < 4; team++) {
                quiz.guess(team, guesses[team]);
            }
            for (int team = 0; team < 4; team++) {
                due("tied before the truth", quiz.ofTeam(team, 1), 1);
                due("all tied before the truth", quiz.ofTeam(team, 9), 15 & ~(1 << team));
            }
            quiz.truth(truth);
            int[] ranks = {4, 3, 1, 2};
            for (int team = 0; team < 4; team++) {
                due("truth " + truth, quiz.ofTeam(team, 1), ranks[team]);
                due("none is tied", quiz.ofTeam(team, 9), 0);
            }
        }
        PubQuizzes far = Checks.withTeams(2);
        far.guess(1, 9999);
        far.truth(0);
        due("the farthest guess is nearer than none", far.ofTeam(1, 1), 1);
        due("none", far.ofTeam(0, 1), 2);
        PubQuizzes sides = Checks.withTeams(3);
        sides.guess(0, 4999);
        sides.guess(1, 5001);
        sides.guess(2, 5002);
        sides.truth(5000);
        due("as near from below", sides.ofTeam(0, 9), 2);
        due("as near from above", sides.ofTeam(1, 9), 1);
        due("one farther", sides.ofTeam(2, 1), 3);
        PubQuizzes none = Checks.withTeams(10);
        none.truth(0);
        due("none has guessed", none.ofTeam(0, 9), 1022);
        PubQuizzes latest = Checks.withTeams(2);
        latest.guess(0, 7);
        latest.guess(1, 8);
        latest.guess(0, 9);
        latest.truth(7);
        due("the latest guess counts", latest.ofTeam(0, 1), 2);
        PubQuizzes score = Checks.withTeams(2);
        score.guess(0, 7);
        Checks.round(score, 0, 0, 1);
        score.truth(7);
        due("a greater score comes before a nearer guess", score.ofTeam(1, 1), 1);
    }

    // "The rank of a team is 1 and how many teams are ahead of it"
    private static void ranks() {
        PubQuizzes quiz = Checks.withTeams(10);
        Checks.round(quiz, 0, 1, 1, 10, 3, 3, 3, 10, 1, 0, -1);
        int[] ranks = {6, 6, 1, 3, 3, 3, 1, 6, 9, 10};
        int[] tied = {2 + 128, 1 + 128, 64, 16 + 32, 8 + 32, 8 + 16, 4, 1 + 2, 0, 0};
        for (int team = 0; team < 10; team++) {
            due("the rank of " + team, quiz.ofTeam(team, 1), ranks[team]);
            due("tied with " + team, quiz.ofTeam(team, 9), tied[team]);
        }
        PubQuizzes one = Checks.withTeams(1);
        due("the only rank", one.ofTeam(0, 1), 1);
        due("tied with nobody", one.ofTeam(0, 9), 0);
    }

    // "The pot is all entries that were paid, less their share for the house: entries * HOUSE / 100"
    private static void theHouse() {
        PubQuizzes quiz = new PubQuizzes();
        due("without teams the house keeps", quiz.count(2), 0);
        due("without teams the pot is", quiz.count(3), 0);
        quiz.set(PubQuizzes.ENTRY, 1);
        quiz.team();
        quiz.team();
        quiz.team();
        int[] houses = {0, 33, 34, 50};
        int[] kept = {0, 0, 1, 1};
        for (int i = 0; i < houses.length; i++) {
            quiz.set(PubQuizzes.HOUSE, houses[i]);
            due("3 coins, rounded down, HOUSE " + houses[i], quiz.count(2), kept[i]);
            due("the rest", quiz.count(3), 3 - kept[i]);
        }
        quiz.set(PubQuizzes.ENTRY, 100);
        due("entries that were paid stay", quiz.count(1), 3);
        due("each of them", quiz.ofTeam(0, 8), 1);
        quiz.team();
        due("with the new one", quiz.count(1), 103);
        due("51.5, rounded down", quiz.count(2), 51);
        due("the pot", quiz.count(3), 52);
    }

    // "the second one 30 hundredths, the third one 10, as far as there are so many teams, the first one the rest"
    private static void prizesOfFewTeams() {
        int[][] prizes = {{19}, {27, 11}, {35, 17, 5}, {47, 22, 7, 0}, {58, 28, 9, 0, 0}};
        for (int teams = 1; teams <= 5; teams++) {
            PubQuizzes quiz = new PubQuizzes();
            quiz.set(PubQuizzes.ENTRY, 19);
            quiz.set(PubQuizzes.HOUSE, 0);
            int[] marks = new int[teams];
            for (int team = 0; team < teams; team++) {
                quiz.team();
                marks[team] = 10 - team;
            }
            Checks.round(quiz, 0, teams == 1 ? new int[0] : marks);
            for (int team = 0; team < teams; team++) {
                due("the prize of " + team + " of " + teams, quiz.ofTeam(team, 2), prizes[teams - 1][team]);
            }
        }
        PubQuizzes rich = new PubQuizzes();
        rich.set(PubQuizzes.ENTRY, 100);
        rich.set(PubQuizzes.HOUSE, 0);
        for (int i = 0; i < 10; i++) {
            rich.team();
        }
        Checks.round(rich, 0, 3, 2, 1);
        due("the greatest pot: the first", rich.ofTeam(0, 2), 600);
        due("the greatest pot: the second", rich.ofTeam(1, 2), 300);
        due("the greatest pot: the third", rich.ofTeam(2, 2), 100);
        due("the greatest pot: the fourth", rich.ofTeam(3, 2), 0);
        PubQuizzes poor = new PubQuizzes();
        poor.set(PubQuizzes.ENTRY, 1);
        for (int i = 0; i < 3; i++) {
            poor.team();
        }
        Checks.round(poor, 0, 3, 2, 1);
        due("3 coins: the first", poor.ofTeam(0, 2), 3);
        due("3 coins: the second", poor.ofTeam(1, 2), 0);
        due("3 coins: the third", poor.ofTeam(2, 2), 0);
    }

    // "what is left over is given coin by coin to those of the lowest numbers"; "the places r to r + n - 1"
    private static void sharedPrizes() {
        int[][] marks = {{5, 5}, {5, 5, 1}, {5, 1, 1}, {5, 5, 5}, {1, 1, 5, 1}, {5, 5, 5, 1}, {1, 2, 2, 5, 2}, {3, 2, 1, 1, 1},
            {3, 2, 1, 0, 0}, {1, 9, 1, 9, 1, 9}};
        // The pots are 18, 27, 36, 45 and 54; 27 is 17, 8 and 2; 36 is 23, 10 and 3; 45 is 28, 13 and 4.
        int[][] prizes = {{9, 9}, {13, 12, 2}, {17, 5, 5}, {9, 9, 9}, {5, 4, 23, 4}, {12, 12, 12, 0}, {0, 6, 6, 28, 5},
            {28, 13, 2, 1, 1}, {28, 13, 4, 0, 0}, {0, 18, 0, 18, 0, 18}};
        for (int i = 0; i < marks.length; i++) {
            PubQuizzes quiz = Checks.withTeams(marks[i].length);
            Checks.round(quiz, 0, marks[i]);
            int all = 0;
            for (int team = 0; team < marks[i].length; team++) {
                due("shared " + i + ", team " + team, quiz.ofTeam(team, 2), prizes[i][team]);
                all += quiz.ofTeam(team, 2);
            }
            due("no coin of the pot is left", all, quiz.count(3));
        }
    }

    private static void sharedByAll() {
        for (int entry = 1; entry <= 100; entry += 9) {
            for (int teams = 1; teams <= 10; teams++) {
                PubQuizzes quiz = new PubQuizzes();
                quiz.set(PubQuizzes.ENTRY, entry);
                quiz.set(PubQuizzes.HOUSE, 17);
                for (int team = 0; team < teams; team++) {
                    quiz.team();
                }
                int entries = entry * teams;
                int pot = entries - entries * 17 / 100;
                for (int team = 0; team < teams; team++) {
                    int due = pot / teams + (team < pot % teams ? 1 : 0);
                    due("all share " + pot, quiz.ofTeam(team, 2), due);
                }
            }
        }
    }

    // 12: sets of teams, from none to all ten
    private static void setsOfTeams() {
        PubQuizzes quiz = Checks.withTeams(10);
        int set = 0;
        for (int team = 9; team >= 0; team--) {
            for (int what = 1; what < 5; what++) {
                due("12: as it was", quiz.ofRound(7, what), what < 3 ? set : 0);
            }
            set |= 1 << team;
            quiz.joker(team, 7);
            due("12: with a joker on it", quiz.ofRound(7, 2), set);
            Checks.hand(quiz, team, 7, ONES);
            due("12: with a sheet", quiz.ofRound(7, 1), set);
        }
        Checks.key(quiz, 7, ONES);
        set = 0;
        for (int team = 9; team >= 0; team--) {
            set |= 1 << team;
            quiz.mark((team + 1) % 10, team, 7, 10);
            due("12: whose mark was told", quiz.ofRound(7, 3), set);
            due("12: not looked at", quiz.ofRound(7, 4), set & ~(1 << team));
            quiz.look(team, 7);
            due("12: looked at", quiz.ofRound(7, 4), set);
        }
        due("12: open, or not", quiz.ofRound(7, 0) * 2 + quiz.ofRound(6, 0), 1);
        for (int what = 1; what < 5; what++) {
            due("12: another round", quiz.ofRound(6, what), 0);
        }
    }

    // 11: "6 rounds with its sheet, 7 those whose mark was told, as sets", from none to all eight
    private static void setsOfRounds() {
        PubQuizzes quiz = Checks.withTeams(10);
        int set = 0;
        for (int round = 7; round >= 0; round--) {
            due("11: sheets before", quiz.ofTeam(9, 6), set);
            set |= 1 << round;
            Checks.hand(quiz, 9, round, NOTHING);
            due("11: sheets", quiz.ofTeam(9, 6), set);
        }
        set = 0;
        for (int round = 7; round >= 0; round--) {
            Checks.key(quiz, round, ONES);
            due("11: told before", quiz.ofTeam(9, 7), set);
            set |= 1 << round;
            quiz.mark(0, 9, round, -20);
            due("11: told", quiz.ofTeam(9, 7), set);
        }
        due("11: the sheets stay", quiz.ofTeam(9, 6), 255);
        due("11: the marker has none", quiz.ofTeam(0, 6) + quiz.ofTeam(0, 7), 0);
    }

    // 12: "the greatest points of a team in it and 100 (NONE without teams)"
    private static void greatestPoints() {
        PubQuizzes empty = new PubQuizzes();
        Checks.key(empty, 7, ONES);
        due("12: without teams, not open", empty.ofRound(7, 5), NONE);
        due("12: without teams, open", empty.ofRound(0, 5), NONE);
        PubQuizzes one = Checks.withTeams(1);
        due("12: without a sheet", one.ofRound(0, 5), 100);
        PubQuizzes quiz = Checks.withTeams(3);
        quiz.joker(0, 0);
        quiz.joker(1, 0);
        quiz.joker(2, 0);
        Checks.round(quiz, 0, -20, -20, -20);
        due("12: the least", quiz.ofRound(0, 5), 60);
        Checks.round(quiz, 1, -20, -19, -20);
        due("12: of the middle one", quiz.ofRound(1, 5), 81);
        Checks.round(quiz, 2, -20, NO_MARK, -20);
        due("12: of the one without a sheet", quiz.ofRound(2, 5), 100);
        Checks.round(quiz, 3, -20, -20, 3);
        due("12: of the last one", quiz.ofRound(3, 5), 103);
        Checks.round(quiz, 4, 4, 3, 3);
        due("12: of the first one", quiz.ofRound(4, 5), 104);
        PubQuizzes best = Checks.withTeams(10);
        best.joker(9, 7);
        Checks.hand(best, 9, 7, ONES);
        Checks.key(best, 7, ONES);
        best.mark(0, 9, 7, 10);
        due("12: the greatest", best.ofRound(7, 5), 120);
    }

    // 13: "NONE if none was told", "NONE while the round is open", "by MINUS as it is now"
    private static void sheets() {
        PubQuizzes quiz = Checks.withTeams(10);
        Checks.hand(quiz, 9, 7, ZEROS);
        int[] open = {NONE, NONE, 100, NONE, 10};
        int[] keyTold = {NONE, NONE, 100, 100, 10};
        int[] told = {80, 0, 80, 100, 10};
        int[] looked = {100, 0, 100, 100, 10};
        int[][] due = {open, keyTold, told, looked};
        for (int step = 0; step < 4; step++) {
            if (step == 1) {
                Checks.key(quiz, 7, ONES);
            } else if (step == 2) {
                quiz.mark(0, 9, 7, -20);
            } else if (step == 3) {
                quiz.look(9, 7);
            }
            for (int what = 0; what < 5; what++) {
                due("13: step " + step + ", " + what, quiz.sheet(9, 7, what), due[step][what]);
            }
        }
        for (int minus = 0; minus <= 2; minus++) {
            quiz.set(PubQuizzes.MINUS, minus);
            due("13: by MINUS as it is now", quiz.sheet(9, 7, 3), 100 - 10 * minus);
            due("13: the mark by MINUS as it was", quiz.sheet(9, 7, 0), 100);
        }
        due("13: no sheet of another round", quiz.sheet(9, 6, 0), NO_SUCH);
        due("13: no sheet of another team", quiz.sheet(8, 7, 0), NO_SUCH);
        quiz.undo();
        quiz.undo();
        quiz.undo();
        quiz.undo();
        quiz.undo();
        due("13: the mark is not told any more", quiz.sheet(9, 7, 0), NONE);
        due("13: open again", quiz.undo() + quiz.sheet(9, 7, 3), NONE);
    }

    // 14: "Returns the digit", "NONE for nothing"
    private static void answers() {
        String[] texts = {"0123456789", "9876543210", NOTHING, "-0-1-2-3-4", ZEROS, "9999999999"};
        PubQuizzes quiz = Checks.withTeams(6);
        for (int team = 0; team < 6; team++) {
            int round = team < 3 ? 0 : 7;
            Checks.hand(quiz, team, round, texts[team]);
            for (int question = 0; question < 10; question++) {
                char sign = texts[team].charAt(question);
                due("14: " + texts[team], quiz.answer(team, round, question), sign == '-' ? NONE : sign - '0');
            }
        }
        due("14: no key of an open round", quiz.answer(NONE, 0, 0), NO_SUCH);
        Checks.key(quiz, 0, texts[1]);
        Checks.key(quiz, 7, texts[0]);
        for (int question = 0; question < 10; question++) {
            due("14: the first key", quiz.answer(NONE, 0, question), 9 - question);
            due("14: the last key", quiz.answer(NONE, 7, question), question);
        }
        due("14: no other key", quiz.answer(NONE, 6, 0), NO_SUCH);
        due("14: no sheet of round 7", quiz.answer(0, 7, 0), NO_SUCH);
        due("14: -5 is neither a team nor NONE", quiz.answer(-5, 0, 0), NO_SUCH);
        due("14: -7 is neither a team nor NONE", quiz.answer(-7, 0, 0), NO_SUCH);
        due("14: the key of round -6", quiz.answer(NONE, -6, 0), NO_SUCH);
        quiz.undo();
        due("14: the key is not told any more", quiz.answer(NONE, 7, 0), NO_SUCH);
        PubQuizzes empty = new PubQuizzes();
        Checks.key(empty, 3, texts[1]);
        due("14: the key without teams", empty.answer(NONE, 3, 0), 9);
    }

    // 15: "in the order of ranks, tied ones by numbers", "NO_SUCH if there are not so many"
    private static void places() {
        for (int teams = 0; teams <= 10; teams++) {
            PubQuizzes quiz = Checks.withTeams(teams);
            for (int place = 0; place < teams; place++) {
                due("15: tied ones by numbers", quiz.at(place), place);
            }
            for (int place : new int[] {-1, teams, teams + 1, 10, 256, NONE, MIN, MAX}) {
                due("15: place " + place + " of " + teams, quiz.at(place), NO_SUCH);
            }
        }
        PubQuizzes quiz = Checks.withTeams(10);
        Checks.round(quiz, 0, 1, 2, 3, 4, 5, 6, 7, 8, 9, 10);
        for (int place = 0; place < 10; place++) {
            due("15: the last one first", quiz.at(place), 9 - place);
        }
        PubQuizzes ties = Checks.withTeams(6);
        Checks.round(ties, 0, 1, 9, 5, 9, 1, 5);
        int[] order = {1, 3, 2, 5, 0, 4};
        for (int place = 0; place < 6; place++) {
            due("15: ties", ties.at(place), order[place]);
        }
    }

    // 16: "unlike scores, how many"
    private static void unlikeScores() {
        int[][] marks = {{1, 1, 1}, {1, 2, 1}, {1, 2, 3}, {2, 1, 1}, {1, 1, 2}, {-1, 1, 0, NO_MARK}, {3, 3, 4, 4, 5, 5, 5, 4, 3, 1}};
        int[] unlike = {1, 2, 3, 2, 2, 3, 4};
        for (int i = 0; i < marks.length; i++) {
            PubQuizzes quiz = Checks.withTeams(marks[i].length);
            due("16: all alike", quiz.count(8), 1);
            Checks.round(quiz, 0, marks[i]);
            due("16: unlike scores of " + i, quiz.count(8), unlike[i]);
            quiz.guess(0, 0);
            quiz.truth(0);
            due("16: whatever was guessed", quiz.count(8), unlike[i]);
        }
        due("16: without teams", new PubQuizzes().count(8), 0);
    }

    // 16: "5 fines so far, 6 looks so far", of no team and round, of the first ones, of the last ones, of all
    private static void finesAndLooks() {
        PubQuizzes quiz = Checks.withTeams(10);
        for (int team = 0; team < 10; team++) {
            for (int round = 0; round < 8; round += 7) {
                Checks.hand(quiz, team, round, ONES);
            }
        }
        Checks.key(quiz, 0, ONES);
        Checks.key(quiz, 7, ONES);
        int looks = 0;
        int fines = 0;
        for (int team = 0; team < 10; team++) {
            for (int round = 0; round < 8; round += 7) {
                due("16: looks so far", quiz.count(6), looks);
                due("16: fines so far", quiz.count(5), fines);
                boolean wrong = (team + round) % 3 != 0;
                quiz.mark((team + 1) % 10, team, round, wrong ? -20 : 10);
                due("16: told, not looked at", quiz.count(6), looks);
                due("16: the answer of look", quiz.look(team, round), wrong ? 1 : 0);
                looks++;
                fines += wrong ? 1 : 0;
            }
        }
        due("16: all looks", quiz.count(6), 20);
        due("16: all fines", quiz.count(5), fines);
        quiz.set(PubQuizzes.FINE, 9);
        due("16: fines are counted, not their points", quiz.count(5), fines);
    }

    // 17: "with all else as it is, of several the lowest one"
    private static void bestJoker() {
        for (int best = 0; best < 8; best++) {
            PubQuizzes quiz = Checks.withTeams(2);
            quiz.joker(1, 7 - best);
            for (int round = 0; round < 8; round++) {
                int mark = round == best || round == 7 ? 10 : 9;
                Checks.round(quiz, round, mark, round == best ? -19 : -20);
            }
            int points = best == 7 ? 73 : 74;
            due("17: the lowest of several", quiz.bestJoker(0, 0), best);
            due("17: the score then", quiz.bestJoker(0, 1), 1000 + points + 10);
            due("17: the score as it is", quiz.ofTeam(0, 0), 1000 + points);
            due("17: the greatest one below 0", quiz.bestJoker(1, 0), best);
            due("17: the least score then", quiz.bestJoker(1, 1), 1000 - 159 - 19);
        }
        PubQuizzes quiz = Checks.withTeams(2);
        quiz.joker(0, 7);
        due("17: nothing told", quiz.bestJoker(0, 0), 0);
        due("17: and the score", quiz.bestJoker(0, 1), 1000);
        Checks.round(quiz, 0, -1, 0);
        due("17: a round of 0 before one below 0", quiz.bestJoker(0, 0), 1);
        due("17: which is not doubled", quiz.bestJoker(0, 1), 999);
        Checks.round(quiz, 7, -3, 0);
        due("17: the joker is taken off for it", quiz.ofTeam(0, 0), 993);
        due("17: and put there", quiz.bestJoker(0, 1), 996);
        quiz.set(PubQuizzes.MINUS, 2);
        due("17: before a fine", quiz.bestJoker(1, 1), 1000);
        quiz.look(0, 0);
        due("17: less the fines", quiz.bestJoker(1, 1), 998);
        quiz.set(PubQuizzes.FINE, 9);
        due("17: by FINE as it is now", quiz.bestJoker(1, 1), 991);
    }

    // 17: one round alone has a mark, of the first and of the last team
    private static void bestJokerOfEachRound() {
        for (int round = 0; round < 8; round++) {
            for (int team = 0; team < 10; team += 9) {
                PubQuizzes quiz = Checks.withTeams(10);
                Checks.hand(quiz, team, round, ONES);
                Checks.key(quiz, round, ONES);
                due("17: no mark yet", quiz.bestJoker(team, 1), 1000);
                quiz.mark(5, team, round, 1);
                due("17: the round with a mark", quiz.bestJoker(team, 0), round);
                due("17: doubled", quiz.bestJoker(team, 1), 1002);
                due("17: another team", quiz.bestJoker(5, 0), 0);
                quiz.undo();
                quiz.mark(5, team, round, -1);
                due("17: the lowest round without a mark", quiz.bestJoker(team, 0), round == 0 ? 1 : 0);
                due("17: not doubled", quiz.bestJoker(team, 1), 999);
            }
        }
    }

    // 18: "10 as the mark of each sheet whose mark was not told, and in each open round without its sheet"
    private static void mostSheets() {
        for (int closed = 0; closed <= 8; closed++) {
            PubQuizzes quiz = Checks.withTeams(2);
            for (int round = 0; round < 8; round++) {
                Checks.hand(quiz, 0, round, NOTHING);
            }
            for (int round = 0; round < closed; round++) {
                Checks.key(quiz, round, ONES);
            }
            due("18: all sheets in, no joker, closed " + closed, quiz.most(0), 1080);
            int open = 8 - closed;
            due("18: no sheets, closed " + closed, quiz.most(1), 1000 + 10 * open + (open > 0 ? 10 : 0));
            for (int round = 0; round < closed; round++) {
                quiz.mark(1, 0, round, -20);
            }
            due("18: as they were told", quiz.most(0), 1000 - 20 * closed + 10 * open);
        }
    }

    // 18: "if its joker is not put, and there is such an open round, it is 10 more"
    private static void mostJoker() {
        PubQuizzes quiz = Checks.withTeams(3);
        quiz.joker(1, 7);
        quiz.joker(2, 0);
        for (int round = 0; round < 7; round++) {
            Checks.round(quiz, round);
        }
        due("18: not put, one open round", quiz.most(0), 1020);
        due("18: put on the open round", quiz.most(1), 1020);
        due("18: put on a closed one", quiz.most(2), 1010);
        for (int team = 0; team < 3; team++) {
            Checks.hand(quiz, team, 7, NOTHING);
        }
        due("18: not put, its sheet is in", quiz.most(0), 1010);
        due("18: put, the sheet is in", quiz.most(1), 1020);
        due("18: put on another one, the sheet is in", quiz.most(2), 1010);
        Checks.key(quiz, 7, ONES);
        due("18: not put, no open round", quiz.most(0), 1010);
        due("18: put, no open round", quiz.most(1), 1020);
        quiz.mark(0, 1, 7, -20);
        quiz.mark(1, 0, 7, 0);
        due("18: told", quiz.most(1), 960);
        due("18: told", quiz.most(0), 1000);
        quiz.look(1, 7);
        due("18: the fines that it has", quiz.most(0), 998);
        due("18: the sheet of the joker is looked at", quiz.most(1), 1000);
        due("18: as the score, when all is told", quiz.most(0), quiz.ofTeam(0, 0));
    }

    // 18: one round alone is open, or has a sheet without a mark
    private static void mostOfEachRound() {
        for (int open = 0; open < 8; open++) {
            PubQuizzes quiz = Checks.withTeams(10);
            quiz.joker(5, open);
            quiz.joker(6, 7 - open);
            Checks.hand(quiz, 9, open, NOTHING);
            for (int round = 0; round < 8; round++) {
                if (round != open) {
                    Checks.key(quiz, round, ONES);
                }
            }
            due("18: one round and the joker", quiz.most(0), 1020);
            due("18: the joker is on it", quiz.most(5), 1020);
            due("18: the joker is elsewhere", quiz.most(6), 1010);
            due("18: the sheet is in", quiz.most(9), 1010);
            Checks.key(quiz, open, ONES);
            due("18: not open", quiz.most(0), 1000);
            due("18: not open, the joker was on it", quiz.most(5), 1000);
            due("18: the mark is not told", quiz.most(9), 1010);
            quiz.mark(0, 9, open, 4);
            due("18: the mark is told", quiz.most(9), 1004);
        }
    }

    // 19: "those that can come to at least the score of each other team now"
    private static void canWin() {
        int[][] marks = {{10, 10, 9, 0}, {10, 10, 10, 0}, {10, 10, 10, 1}};
        int[] canWin = {7, 7, 1};
        for (int i = 0; i < marks.length; i++) {
            PubQuizzes quiz = Checks.withTeams(3);
            for (int round = 0; round < 6; round++) {
                Checks.round(quiz, round, round < 4 ? marks[i][round] : 0);
            }
            due("19: the first one has", quiz.ofTeam(0, 0), 1029 + i);
            due("19: the second one can come to, with two rounds and the joker", quiz.most(1), 1030);
            due("19: the third one, too", quiz.most(2), 1030);
            due("19: at least " + (29 + i), quiz.canWin(), canWin[i]);
        }
        PubQuizzes behind = Checks.withTeams(2);
        for (int round = 0; round < 8; round++) {
            Checks.round(behind, round, 0, round == 0 ? 1 : 0);
        }
        due("19: one behind, and all is told", behind.canWin(), 2);
        PubQuizzes below = Checks.withTeams(10);
        for (int round = 0; round < 8; round++) {
            Checks.round(below, round, -20);
        }
        due("19: all but the one below 0", below.canWin(), 1022);
        PubQuizzes one = Checks.withTeams(1);
        due("19: the only team", one.canWin(), 1);
        due("19: without teams", new PubQuizzes().canWin(), 0);
        PubQuizzes tied = Checks.withTeams(2);
        for (int round = 0; round < 8; round++) {
            Checks.round(tied, round, 1, 1);
        }
        tied.guess(1, 0);
        tied.truth(0);
        due("19: tied, all is told, whatever was guessed", tied.canWin(), 3);
    }

    // 20: "if the house looked at all sheets, of all teams, whose marks were told, and at which it has not looked"
    private static void ifLooked() {
        PubQuizzes quiz = Checks.withTeams(10);
        quiz.joker(9, 7);
        for (int team = 0; team < 10; team++) {
            Checks.hand(quiz, team, 7, ONES);
        }
        due("20: none was told, open", quiz.ifLooked(9), 1000);
        Checks.key(quiz, 7, ONES);
        due("20: none was told", quiz.ifLooked(9), 1000);
        quiz.mark(0, 9, 7, 10);
        due("20: told truly", quiz.ifLooked(9), 1020);
        due("20: no fine for that", quiz.ifLooked(0), 1000);
        quiz.mark(9, 0, 7, 9);
        due("20: one point more", quiz.ifLooked(0), 1010);
        due("20: a fine for one point", quiz.ifLooked(9), 1018);
        for (int team = 1; team < 9; team++) {
            quiz.mark(9, team, 7, -20);
        }
        due("20: nine fines", quiz.ifLooked(9), 1002);
        for (int team = 0; team < 9; team++) {
            due("20: as many of them to come as before", quiz.ifLooked(9), 1002);
            quiz.look(team, 7);
        }
        due("20: all looked at", quiz.ifLooked(9), 1002);
        due("20: the score", quiz.ofTeam(9, 0), 1002);
        due("20: the last one not looked at", quiz.look(9, 7), 0);
        due("20: still the score", quiz.ifLooked(9), 1002);
    }

    // 20: one round alone has a wrong mark, of the first and of the last team
    private static void ifLookedInEachRound() {
        for (int round = 0; round < 8; round++) {
            for (int team = 0; team < 10; team += 9) {
                PubQuizzes quiz = Checks.withTeams(10);
                int marker = 9 - team;
                quiz.joker(team, 7 - round);
                Checks.hand(quiz, team, round, ONES);
                Checks.hand(quiz, team, 7 - round, ONES.substring(0, 6) + NOTHING.substring(6));
                Checks.key(quiz, round, ONES);
                Checks.key(quiz, 7 - round, ONES);
                quiz.mark(marker, team, round, 1);
                due("20: 9 points more", quiz.ifLooked(team), 1010);
                due("20: a fine", quiz.ifLooked(marker), 998);
                due("20: not for others", quiz.ifLooked(5), 1000);
                quiz.mark(5, team, 7 - round, 8);
                due("20: 4 points less for the doubled one", quiz.ifLooked(team), 1022);
                due("20: a fine", quiz.ifLooked(5), 998);
                due("21: wrong", quiz.wrongMarks(), 2);
                quiz.look(team, 7 - round);
                due("20: as before", quiz.ifLooked(team), 1022);
                due("20: the fine is not told twice", quiz.ifLooked(5), 998);
                due("21: one is left", quiz.wrongMarks(), 1);
            }
        }
    }

    // 21: "sheets at which the house has not looked, and whose marks are not the true ones"
    private static void wrongMarks() {
        PubQuizzes quiz = Checks.withTeams(10);
        for (int team = 0; team < 10; team++) {
            Checks.hand(quiz, team, 7, ZEROS);
        }
        due("21: open", quiz.wrongMarks(), 0);
        Checks.key(quiz, 7, ONES);
        due("21: not told", quiz.wrongMarks(), 0);
        for (int team = 0; team < 10; team++) {
            quiz.mark((team + 1) % 10, team, 7, -1);
            due("21: wrong by one", quiz.wrongMarks(), team + 1);
        }
        quiz.set(PubQuizzes.MINUS, 2);
        due("21: still wrong", quiz.wrongMarks(), 10);
        for (int team = 0; team < 10; team++) {
            quiz.look(team, 7);
            due("21: looked at", quiz.wrongMarks(), 9 - team);
        }
        quiz.set(PubQuizzes.MINUS, 0);
        due("21: not the true ones any more, but looked at", quiz.wrongMarks(), 0);
        PubQuizzes edge = Checks.withTeams(2);
        edge.set(PubQuizzes.MINUS, 2);
        Checks.hand(edge, 0, 0, ZEROS);
        Checks.hand(edge, 1, 0, ONES);
        Checks.key(edge, 0, ONES);
        edge.mark(1, 0, 0, -20);
        edge.mark(0, 1, 0, 10);
        due("21: the least and the greatest mark are true", edge.wrongMarks(), 0);
        edge.set(PubQuizzes.MINUS, 1);
        due("21: by MINUS as it is now", edge.wrongMarks(), 1);
        due("21: not refused", edge.look(0, 0), 1);
        due("21: refused", edge.look(0, 0), NOT_POSSIBLE);
    }
}
