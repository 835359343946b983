import java.util.Random;

/** Long runs of calls, right ones and wrong ones, with the answers of the model. */
public final class ModelTest {
    private static final int RUNS = 1500;
    private static final int CALLS = 512;
    private static final int[] EDGES = {
        Integer.MIN_VALUE, Integer.MAX_VALUE, -1000, -21, -20, -7, -6, -5, -2, -1, 0, 1, 2, 3, 4, 5, 6, 7, 8, 9, 10, 11, 14,
        15, 31, 32, 50, 51, 80, 100, 101, 9999, 10000, 1 << 16, 1 << 29, 1 << 31 | 1
    };

    private final Random random;
    private final int run;
    private final PubQuizzes quiz = new PubQuizzes();
    private final Model model = new Model();
    // What each run does more or less often, so that runs come to unlike states.
    private final int teamsWanted;
    private final int wrongPercent;
    private final int digits;
    private int calls;

    private ModelTest(int run) {
        this.run = run;
        random = new Random(run);
        teamsWanted = random.nextInt(11);
        wrongPercent = random.nextInt(4) * 5;
        digits = 1 + random.nextInt(4);
    }

    public static void main(String[] args) {
        for (int run = 0; run < RUNS; run++) {
            new ModelTest(run).play();
        }
        Checks.end();
    }

    private void play() {
        for (int i = 0; i < teamsWanted; i++) {
            if (random.nextInt(4) == 0) {
                change(1);
            }
            due("team()", quiz.team(), model.team());
        }
        while (calls < CALLS - 160) {
            change(random.nextInt(100));
            for (int i = random.nextInt(3); i > 0; i--) {
                ask();
            }
        }
        askAll();
    }

    private void due(String call, int got, int want) {
        calls++;
        Checks.due("run " + run + " call " + calls + " " + call, got, want);
    }

    private boolean isWrong() {
        return random.nextInt(100) < wrongPercent;
    }

    private int edge() {
        return EDGES[random.nextInt(EDGES.length)];
    }

    private int number(int below) {
        return isWrong() ? edge() : random.nextInt(below);
    }

    private int someTeam() {
        return number(Math.max(model.count(0), 1));
    }

    private int someRound() {
        return number(8);
    }

    private void put(long characters) {
        due("put(" + characters + ")", quiz.put(characters), model.put(characters));
    }

    private void text(boolean forKey) {
        if (model.count(13) > 0 && !isWrong()) {
            due("wipe()", quiz.wipe(), model.wipe());
        }
        int length = isWrong() ? random.nextInt(13) : 10;
        StringBuilder text = new StringBuilder();
        for (int i = 0; i < length; i++) {
            boolean nothing = random.nextInt(forKey ? 200 : 5) == 0;
            text.append(nothing ? '-' : (char) ('0' + random.nextInt(digits)));
        }
        if (random.nextInt(20) == 0 && length > 0) {
            text.setCharAt(random.nextInt(length), "/:.,x!~0123456789".charAt(random.nextInt(17)));
        }
        for (int from = 0; from < text.length(); from += 8) {
            put(Checks.number(text.substring(from, Math.min(from + 8, text.length()))));
        }
    }

    private void oddPut() {
        long characters = random.nextLong();
        if (random.nextBoolean()) {
            characters = 0;
            for (int i = random.nextInt(9); i > 0; i--) {
                int code = random.nextInt(30) == 0 ? random.nextInt(256) : 33 + random.nextInt(94);
                characters = characters << 8 | code;
            }
        }
        put(characters);
    }

    private void change(int kind) {
        int team = someTeam();
        int round = someRound();
        if (kind < 6) {
            int setting = number(4);
            int value = number(new int[] {101, 51, 3, 10}[setting & 3]);
            due("set(" + setting + ", " + value + ")", quiz.set(setting, value), model.set(setting, value));
        } else if (kind < 8) {
            due("team()", quiz.team(), model.team());
        } else if (kind < 35) {
            text(false);
            due("hand(" + team + ", " + round + ")", quiz.hand(team, round), model.hand(team, round));
        } else if (kind < 41) {
            due("joker(" + team + ", " + round + ")", quiz.joker(team, round), model.joker(team, round));
        } else if (kind < 49) {
            text(true);
            due("key(" + round + ")", quiz.key(round), model.key(round));
        } else if (kind < 71) {
            tellMark();
        } else if (kind < 79) {
            lookAtSome();
        } else if (kind < 84) {
            int guess = random.nextBoolean() ? number(10000) : 5000 + random.nextInt(5);
            due("guess(" + team + ", " + guess + ")", quiz.guess(team, guess), model.guess(team, guess));
        } else if (kind < 85) {
            int truth = random.nextBoolean() ? number(10000) : 5000 + random.nextInt(5);
            due("truth(" + truth + ")", quiz.truth(truth), model.truth(truth));
        } else if (kind < 88) {
            due("undo()", quiz.undo(), model.undo());
        } else if (kind < 90) {
            int slot = number(2);
            due("save(" + slot + ")", quiz.save(slot), model.save(slot));
        } else if (kind < 91) {
            int slot = number(2);
            due("restore(" + slot + ")", quiz.restore(slot), model.restore(slot));
        } else if (kind < 93) {
            oddPut();
        } else {
            ask();
        }
    }

    /** Mostly a mark that can be told; often the true one. */
    private void tellMark() {
        int marker = someTeam();
        int team = someTeam();
        int round = someRound();
        int untold = model.ofTeam(team, 6) & ~model.ofTeam(team, 7) & ~model.count(4);
        if (model.ofTeam(team, 6) >= 0 && untold != 0) {
            round = Integer.numberOfTrailingZeros(untold);
        }
        if (marker == team && !isWrong()) {
            marker = (team + 1) % Math.max(model.count(0), 1);
        }
        int mark = random.nextInt(3) == 0 ? number(31) - 20 : model.sheet(team, round, 3) - 100;
        due("mark(" + marker + ", " + team + ", " + round + ", " + mark + ")", quiz.mark(marker, team, round, mark),
            model.mark(marker, team, round, mark));
    }

    private void lookAtSome() {
        int team = someTeam();
        int round = someRound();
        int told = model.ofTeam(team, 7);
        if (told > 0 && !isWrong()) {
            do {
                round = random.nextInt(8);
            } while ((told & 1 << round) == 0);
        }
        due("look(" + team + ", " + round + ")", quiz.look(team, round), model.look(team, round));
    }

    private void ask() {
        int team = someTeam();
        int round = someRound();
        int what = number(16);
        switch (random.nextInt(12)) {
            case 0 -> due("ofTeam(" + team + ", " + what + ")", quiz.ofTeam(team, what), model.ofTeam(team, what));
            case 1 -> due("ofRound(" + round + ", " + what + ")", quiz.ofRound(round, what), model.ofRound(round, what));
            case 2 -> due("sheet(" + team + ", " + round + ", " + what % 6 + ")", quiz.sheet(team, round, what % 6),
                model.sheet(team, round, what % 6));
            case 3 -> {
                int whose = random.nextInt(3) == 0 ? -6 : team;
                due("answer(" + whose + ", " + round + ", " + what + ")", quiz.answer(whose, round, what),
                    model.answer(whose, round, what));
            }
            case 4 -> due("at(" + team + ")", quiz.at(team), model.at(team));
            case 5 -> due("count(" + what + ")", quiz.count(what), model.count(what));
            case 6 -> due("bestJoker(" + team + ", " + what % 3 + ")", quiz.bestJoker(team, what % 3),
                model.bestJoker(team, what % 3));
            case 7 -> due("most(" + team + ")", quiz.most(team), model.most(team));
            case 8 -> due("canWin()", quiz.canWin(), model.canWin());
            case 9 -> due("ifLooked(" + team + ")", quiz.ifLooked(team), model.ifLooked(team));
            case 10 -> due("wrongMarks()", quiz.wrongMarks(), model.wrongMarks());
            default -> due("fault()", quiz.fault(), model.fault());
        }
    }

    private void askAll() {
        for (int what = 0; what < 15; what++) {
            due("count(" + what + ")", quiz.count(what), model.count(what));
        }
        for (int team = 0; team < model.count(0) && team < 7; team++) {
            for (int what = 0; what < 10; what++) {
                due("ofTeam(" + team + ", " + what + ")", quiz.ofTeam(team, what), model.ofTeam(team, what));
            }
            due("at(" + team + ")", quiz.at(team), model.at(team));
            due("most(" + team + ")", quiz.most(team), model.most(team));
            due("ifLooked(" + team + ")", quiz.ifLooked(team), model.ifLooked(team));
            due("bestJoker(" + team + ", 0)", quiz.bestJoker(team, 0), model.bestJoker(team, 0));
            due("bestJoker(" + team + ", 1)", quiz.bestJoker(team, 1), model.bestJoker(team, 1));
        }
        due("canWin()", quiz.canWin(), model.canWin());
        due("wrongMarks()", quiz.wrongMarks(), model.wrongMarks());
        while (calls < CALLS) {
            ask();
        }
    }
}
