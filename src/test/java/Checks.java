/** Counts and prints the answers that are not due, and puts texts into a quiz. */
final class Checks {
    private static int wrong = 0;

    private Checks() {
    }

    static void due(String call, long got, long want) {
        if (got != want) {
            wrong++;
            System.out.println(call + " answered " + got + ", due is " + want);
        }
    }

    /** Ends the test, with exit code 1 if an answer was wrong. */
    static void end() {
        System.out.println(wrong == 0 ? "all answers are as due" : wrong + " answers are not as due");
        if (wrong != 0) {
            System.exit(1);
        }
    }

    /** At most eight characters as the number that put takes. */
    static long number(String text) {
        long number = 0;
        for (char c : text.toCharArray()) {
            number = number << 8 | c;
        }
        return number;
    }

    /** Wipes the pad and puts a text there. */
    static void pad(PubQuizzes quiz, String text) {
        quiz.wipe();
        for (int from = 0; from < text.length(); from += 8) {
            quiz.put(number(text.substring(from, Math.min(from + 8, text.length()))));
        }
        due("length of the pad with " + text, quiz.count(13), text.length());
    }

    static int hand(PubQuizzes quiz, int team, int round, String sheet) {
        pad(quiz, sheet);
        return quiz.hand(team, round);
    }

    static int key(PubQuizzes quiz, int round, String key) {
        pad(quiz, key);
        return quiz.key(round);
    }

    static PubQuizzes withTeams(int teams) {
        PubQuizzes quiz = new PubQuizzes();
        for (int team = 0; team < teams; team++) {
            due("team()", quiz.team(), team);
        }
        return quiz;
    }

    /** A round in which each team that has a mark here (not -99) is told it by the next team. */
    static void round(PubQuizzes quiz, int round, int... marks) {
        int teams = quiz.count(0);
        for (int team = 0; team < marks.length; team++) {
            if (marks[team] != -99) {
                hand(quiz, team, round, sheetOf(marks[team]));
            }
        }
        key(quiz, round, "0000000000");
        for (int team = 0; team < marks.length; team++) {
            if (marks[team] != -99) {
                due("mark", quiz.mark((team + 1) % teams, team, round, marks[team]), 1);
            }
        }
    }

    /** A sheet that has that many right answers by the key 0000000000, and no wrong ones. */
    static String sheetOf(int right) {
        return "0000000000".substring(0, Math.max(right, 0)) + "----------".substring(Math.max(right, 0));
    }
}
