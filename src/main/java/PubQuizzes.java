import java.util.Arrays;

/**
 * The marking of a pub quiz. The public methods test what they are given and record what a change
 * starts from; the state of the quiz answers the questions. No call makes an object: all rows are
 * made here once and used again.
 */
public final class PubQuizzes {
    public static final int NO_SUCH = -1, BAD_VALUE = -2, BAD_TEXT = -3, TOO_MANY = -4, NOT_POSSIBLE = -5, NONE = -6;
    public static final int ENTRY = 0, HOUSE = 1, MINUS = 2, FINE = 3;

    private static final int SETTINGS = 4;
    private static final int TEAMS = 10;
    private static final int ROUNDS = 8;
    private static final int QUESTIONS = 10;
    private static final int SHEETS = TEAMS * ROUNDS;
    private static final int ALL_ROUNDS = (1 << ROUNDS) - 1;
    private static final int BEST_MARK = 10;
    private static final int WORST_MARK = -20;
    private static final int GREATEST_NUMBER = 9999;
    private static final int SLOTS = 2;

    // What is added to scores and to marks so that no answer looks like an error.
    private static final int SCORE_BASE = 1000;
    private static final int MARK_BASE = 100;

    // The least and the greatest value of each setting, in the order of their numbers.
    private static final int[] LEAST = {1, 0, 0, 0};
    private static final int[] GREATEST = {100, 50, 2, 9};

    private final State now = new State();
    private final History history = new History();
    private final Pad pad = new Pad();
    private final State[] slots = new State[SLOTS];
    private final boolean[] saved = new boolean[SLOTS];

    public PubQuizzes() {
        for (int slot = 0; slot < SLOTS; slot++) {
            slots[slot] = new State();
        }
    }

    // ---- changes

    public int set(int setting, int value) {
        if (setting < 0 || setting >= SETTINGS || value < LEAST[setting] || value > GREATEST[setting]) {
            return BAD_VALUE;
        }
        history.record(now);
        int previous = now.settings[setting];
        now.settings[setting] = value;
        return previous;
    }

    public int team() {
        int comes = now.teams;
        if (comes < 0 || comes >= TEAMS) {
            return TOO_MANY;
        }
        if (now.openRounds() != ALL_ROUNDS) {
            return NOT_POSSIBLE;
        }
        history.record(now);
        now.paid[comes] = now.settings[ENTRY];
        now.teams = comes + 1;
        return comes;
    }

    public int hand(int team, int round) {
        if (!now.isTeam(team) || !isRound(round)) {
            return NO_SUCH;
        }
        if (!pad.tellsSheet()) {
            return BAD_TEXT;
        }
        if (!now.isOpen(round) || now.hasSheet(team, round)) {
            return NOT_POSSIBLE;
        }
        history.record(now);
        now.sheets[indexOf(team, round)] = pad.signs();
        pad.clear();
        return now.answered(team, round);
    }

    public int joker(int team, int round) {
        if (!now.isTeam(team) || !isRound(round)) {
            return NO_SUCH;
        }
        if (now.jokers[team] != NONE || !now.isOpen(round) || now.hasSheet(team, round)) {
            return NOT_POSSIBLE;
        }
        history.record(now);
        now.jokers[team] = round;
        return Integer.bitCount(now.teamsWithJoker(round));
    }

    public int key(int round) {
        if (!isRound(round)) {
            return NO_SUCH;
        }
        if (!pad.tellsKey()) {
            return BAD_TEXT;
        }
        if (!now.isOpen(round)) {
            return NOT_POSSIBLE;
        }
        history.record(now);
        now.keys[round] = pad.signs();
        pad.clear();
        return Integer.bitCount(now.teamsWithSheet(round));
    }

    public int mark(int marker, int team, int round, int mark) {
        if (!now.isTeam(marker) || !now.isTeam(team) || !isRound(round)) {
            return NO_SUCH;
        }
        if (marker == team || mark < WORST_MARK || mark > BEST_MARK) {
            return BAD_VALUE;
        }
        if (now.isOpen(round) || !now.hasSheet(team, round) || now.isTold(team, round)) {
            return NOT_POSSIBLE;
        }
        history.record(now);
        now.marks[indexOf(team, round)] = mark;
        now.markers[indexOf(team, round)] = marker;
        return 1;
    }

    public int look(int team, int round) {
        if (!now.isTeam(team) || !isRound(round)) {
            return NO_SUCH;
        }
        if (!now.isTold(team, round) || now.isLooked(team, round)) {
            return NOT_POSSIBLE;
        }
        history.record(now);
        boolean wrong = now.isWrong(team, round);
        if (wrong) {
            now.addFine(now.markerOf(team, round));
        }
        now.marks[indexOf(team, round)] = now.trueMark(team, round);
        now.looked[round] |= 1 << team;
        return wrong ? 1 : 0;
    }

    public int guess(int team, int guess) {
        if (!now.isTeam(team)) {
            return NO_SUCH;
        }
        if (guess < 0 || guess > GREATEST_NUMBER) {
            return BAD_VALUE;
        }
        if (now.truth != NONE) {
            return NOT_POSSIBLE;
        }
        history.record(now);
        int previous = now.guesses[team];
        now.guesses[team] = guess;
        return previous;
    }

    public int truth(int truth) {
        if (truth < 0 || truth > GREATEST_NUMBER) {
            return BAD_VALUE;
        }
        if (now.truth != NONE) {
            return NOT_POSSIBLE;
        }
        history.record(now);
        now.truth = truth;
        return now.guessers();
    }

    // ---- what there is

    public int ofTeam(int team, int what) {
        if (!now.isTeam(team)) {
            return NO_SUCH;
        }
        switch (what) {
            case 0: return now.scoreOf(team) + SCORE_BASE;
            case 1: return now.rankOf(team);
            case 2: return now.prizeOf(team);
            case 3: return now.jokers[team];
            case 4: return now.fines[team];
            case 5: return now.guesses[team];
            case 6: return now.roundsWithSheet(team);
            case 7: return now.roundsTold(team);
            case 8: return now.paid[team];
            case 9: return now.tiedWith(team);
            default: return BAD_VALUE;
        }
    }

    public int ofRound(int round, int what) {
        if (!isRound(round)) {
            return NO_SUCH;
        }
        switch (what) {
            case 0: return now.isOpen(round) ? 1 : 0;
            case 1: return now.teamsWithSheet(round);
            case 2: return now.teamsWithJoker(round);
            case 3: return now.teamsTold(round);
            case 4: return now.looked[round];
            case 5: return now.teams == 0 ? NONE : now.greatestPoints(round) + MARK_BASE;
            default: return BAD_VALUE;
        }
    }

    public int sheet(int team, int round, int what) {
        if (!now.isTeam(team) || !isRound(round) || !now.hasSheet(team, round)) {
            return NO_SUCH;
        }
        switch (what) {
            case 0: return now.isTold(team, round) ? now.markOf(team, round) + MARK_BASE : NONE;
            case 1: return now.markerOf(team, round);
            case 2: return now.pointsOf(team, round) + MARK_BASE;
            case 3: return now.isOpen(round) ? NONE : now.trueMark(team, round) + MARK_BASE;
            case 4: return now.answered(team, round);
            default: return BAD_VALUE;
        }
    }

    public int answer(int team, int round, int question) {
        if ((team != NONE && !now.isTeam(team)) || !isRound(round)) {
            return NO_SUCH;
        }
        boolean told = team == NONE ? !now.isOpen(round) : now.hasSheet(team, round);
        if (!told) {
            return NO_SUCH;
        }
        if (question < 0 || question >= QUESTIONS) {
            return BAD_VALUE;
        }
        long signs = team == NONE ? now.keys[round] : now.sheets[indexOf(team, round)];
        int sign = Signs.signAt(signs, question);
        return sign == Signs.NOTHING ? NONE : sign;
    }

    public int at(int place) {
        for (int team = 0; team < now.teams; team++) {
            if (now.placeOf(team) == place) {
                return team;
            }
        }
        return NO_SUCH;
    }

    public int count(int what) {
        switch (what) {
            case 0: return now.teams;
            case 1: return now.entries();
            case 2: return now.ofTheHouse();
            case 3: return now.pot();
            case 4: return now.openRounds();
            case 5: return now.allFines();
            case 6: return now.allLooks();
            case 7: return now.truth;
            case 8: return now.unlikeScores();
            case 9: return now.settings[ENTRY];
            case 10: return now.settings[HOUSE];
            case 11: return now.settings[MINUS];
            case 12: return now.settings[FINE];
            case 13: return pad.length();
            case 14: return history.length();
            default: return BAD_VALUE;
        }
    }

    // ---- what if; nothing changes

    public int bestJoker(int team, int what) {
        if (!now.isTeam(team)) {
            return NO_SUCH;
        }
        int round = now.bestRound(team);
        switch (what) {
            case 0: return round;
            case 1: return now.scoreWithJokerOn(team, round) + SCORE_BASE;
            default: return BAD_VALUE;
        }
    }

    public int most(int team) {
        return now.isTeam(team) ? now.greatestScore(team) + SCORE_BASE : NO_SUCH;
    }

    public int canWin() {
        int winners = 0;
        for (int team = 0; team < now.teams; team++) {
            winners |= now.canReachOthers(team) ? 1 << team : 0;
        }
        return winners;
    }

    public int ifLooked(int team) {
        return now.isTeam(team) ? now.scoreIfLooked(team) + SCORE_BASE : NO_SUCH;
    }

    public int wrongMarks() {
        int wrong = 0;
        for (int team = 0; team < now.teams; team++) {
            for (int round = 0; round < ROUNDS; round++) {
                if (now.isWrong(team, round)) {
                    wrong++;
                }
            }
        }
        return wrong;
    }

    // ---- texts

    public int put(long characters) {
        int added = Pad.charactersIn(characters);
        if (added == 0) {
            return BAD_VALUE;
        }
        return pad.append(characters, added) ? pad.length() : TOO_MANY;
    }

    public int wipe() {
        int length = pad.length();
        pad.clear();
        return length;
    }

    public int fault() {
        return pad.faultIndex();
    }

    // ---- undo, saving

    public int undo() {
        if (history.length() == 0) {
            return NOT_POSSIBLE;
        }
        history.takeBack(now);
        return history.length();
    }

    public int save(int slot) {
        if (!isSlot(slot)) {
            return BAD_VALUE;
        }
        State.copy(now, slots[slot]);
        saved[slot] = true;
        return now.teams;
    }

    public int restore(int slot) {
        if (!isSlot(slot)) {
            return BAD_VALUE;
        }
        if (!saved[slot]) {
            return NOT_POSSIBLE;
        }
        history.record(now);
        State.copy(slots[slot], now);
        return now.teams;
    }

    // ---- what the methods above share

    private static boolean isRound(int round) {
        return round >= 0 && round < ROUNDS;
    }

    private static boolean isSlot(int slot) {
        return slot >= 0 && slot < SLOTS;
    }

    /** Where the sheet of a team in a round stands in the rows of all sheets. */
    private static int indexOf(int team, int round) {
        return team * ROUNDS + round;
    }

    /**
     * Ten signs as one number, four bits a sign, the first one lowest: a state is copied for each
     * change, and so a sheet is one element to copy and not ten.
     */
    private static final class Signs {
        static final int NOTHING = 15;
        // No ten signs make this number, for they leave its upper bits 0.
        static final long NO_SIGNS = -1;
        private static final int BITS = 4;

        static int signAt(long signs, int question) {
            return (int) (signs >>> (BITS * question)) & 15;
        }

        static long withSign(long signs, int question, int sign) {
            return signs | ((long) sign << (BITS * question));
        }
    }

    /** The text from which sheets and keys are read. */
    private static final class Pad {
        private static final int LONGEST = 80;
        private static final int PUT_AT_ONCE = 8;
        private static final int FIRST_CODE = 33;
        private static final int LAST_CODE = 126;

        private final int[] codes = new int[LONGEST];
        private int length;

        /** How many characters a number tells, 0 if it is none that tells characters. */
        static int charactersIn(long characters) {
            long rest = characters;
            int found = 0;
            while (found < PUT_AT_ONCE && (rest & 255) != 0) {
                int code = (int) (rest & 255);
                if (code < FIRST_CODE || code > LAST_CODE) {
                    return 0;
                }
                rest >>>= 8;
                found++;
            }
            return rest == 0 ? found : 0;
        }

        int length() {
            return length;
        }

        void clear() {
            length = 0;
        }

        /** Tells whether there was room; without room nothing is appended. */
        boolean append(long characters, int added) {
            int longer = length + added;
            if (longer > LONGEST) {
                return false;
            }
            long rest = characters;
            for (int i = longer - 1; i >= length && i >= 0; i--) {
                codes[i] = (int) (rest & 255);
                rest >>>= 8;
            }
            length = longer;
            return true;
        }

        int faultIndex() {
            for (int i = 0; i < length && i < LONGEST; i++) {
                if (i >= QUESTIONS || !isSign(codes[i])) {
                    return i;
                }
            }
            return length < QUESTIONS ? length : NONE;
        }

        boolean tellsSheet() {
            return faultIndex() == NONE;
        }

        boolean tellsKey() {
            if (!tellsSheet()) {
                return false;
            }
            for (int i = 0; i < QUESTIONS; i++) {
                if (!isDigit(codes[i])) {
                    return false;
                }
            }
            return true;
        }

        /** The first ten signs; of use only if the pad tells a sheet. */
        long signs() {
            long signs = 0;
            for (int i = 0; i < QUESTIONS; i++) {
                int sign = isDigit(codes[i]) ? codes[i] - '0' : Signs.NOTHING;
                signs = Signs.withSign(signs, i, sign);
            }
            return signs;
        }

        private static boolean isSign(int code) {
            return code == '-' || isDigit(code);
        }

        private static boolean isDigit(int code) {
            return code >= '0' && code <= '9';
        }
    }

    /** The latest states, in a ring: the place of the oldest one is used again. */
    private static final class History {
        private static final int KEPT = 6;

        private final State[] states = new State[KEPT];
        private int next;
        private int length;

        History() {
            for (int i = 0; i < KEPT; i++) {
                states[i] = new State();
            }
        }

        int length() {
            return length;
        }

        void record(State state) {
            if (next < 0 || next >= KEPT) {
                return;
            }
            State.copy(state, states[next]);
            next = next == KEPT - 1 ? 0 : next + 1;
            length = Math.min(length + 1, KEPT);
        }

        void takeBack(State state) {
            int latest = next == 0 ? KEPT - 1 : next - 1;
            if (length == 0 || latest < 0 || latest >= KEPT) {
                return;
            }
            State.copy(states[latest], state);
            next = latest;
            length--;
        }
    }

    /**
     * All that undo and restore bring back, and what can be asked of it. Its methods take only teams
     * and rounds that there are; the public methods see to that.
     */
    private static final class State {
        // Farther than any guess can be, so that a team without one is behind all that have one.
        private static final int FARTHEST = 10000;

        final int[] settings = {10, 10, 0, 2};
        final int[] paid = new int[TEAMS];
        final int[] jokers = new int[TEAMS];
        final int[] fines = new int[TEAMS];
        final int[] guesses = new int[TEAMS];
        final long[] keys = new long[ROUNDS];
        final long[] sheets = new long[SHEETS];
        final int[] marks = new int[SHEETS];
        final int[] markers = new int[SHEETS];
        final int[] looked = new int[ROUNDS];
        int teams;
        int truth = NONE;

        State() {
            Arrays.fill(jokers, NONE);
            Arrays.fill(guesses, NONE);
            Arrays.fill(keys, Signs.NO_SIGNS);
            Arrays.fill(sheets, Signs.NO_SIGNS);
            Arrays.fill(markers, NONE);
        }

        static void copy(State from, State to) {
            if (from == null || to == null) {
                return;
            }
            System.arraycopy(from.settings, 0, to.settings, 0, SETTINGS);
            System.arraycopy(from.paid, 0, to.paid, 0, TEAMS);
            System.arraycopy(from.jokers, 0, to.jokers, 0, TEAMS);
            System.arraycopy(from.fines, 0, to.fines, 0, TEAMS);
            System.arraycopy(from.guesses, 0, to.guesses, 0, TEAMS);
            System.arraycopy(from.keys, 0, to.keys, 0, ROUNDS);
            System.arraycopy(from.sheets, 0, to.sheets, 0, SHEETS);
            System.arraycopy(from.marks, 0, to.marks, 0, SHEETS);
            System.arraycopy(from.markers, 0, to.markers, 0, SHEETS);
            System.arraycopy(from.looked, 0, to.looked, 0, ROUNDS);
            to.teams = from.teams;
            to.truth = from.truth;
        }

        // -- sheets and marks

        boolean isTeam(int team) {
            return team >= 0 && team < teams && team < TEAMS;
        }

        boolean isOpen(int round) {
            return keys[round] == Signs.NO_SIGNS;
        }

        boolean hasSheet(int team, int round) {
            return sheets[indexOf(team, round)] != Signs.NO_SIGNS;
        }

        boolean isTold(int team, int round) {
            return markerOf(team, round) != NONE;
        }

        boolean isLooked(int team, int round) {
            return (looked[round] & (1 << team)) != 0;
        }

        int markerOf(int team, int round) {
            return markers[indexOf(team, round)];
        }

        int markOf(int team, int round) {
            return marks[indexOf(team, round)];
        }

        /** Tells whether a look at the sheet would change its mark. */
        boolean isWrong(int team, int round) {
            return isTold(team, round) && !isLooked(team, round) && markOf(team, round) != trueMark(team, round);
        }

        /** The mark by the key of the round, which has to be told. */
        int trueMark(int team, int round) {
            long signs = sheets[indexOf(team, round)];
            long key = keys[round];
            int mark = 0;
            for (int question = 0; question < QUESTIONS; question++) {
                int sign = Signs.signAt(signs, question);
                if (sign == Signs.signAt(key, question)) {
                    mark++;
                } else if (sign != Signs.NOTHING) {
                    mark -= settings[MINUS];
                }
            }
            return mark;
        }

        int answered(int team, int round) {
            long signs = sheets[indexOf(team, round)];
            int answered = 0;
            for (int question = 0; question < QUESTIONS; question++) {
                if (Signs.signAt(signs, question) != Signs.NOTHING) {
                    answered++;
                }
            }
            return answered;
        }

        void addFine(int team) {
            if (isTeam(team)) {
                fines[team]++;
            }
        }

        // -- sets of teams and rounds

        int openRounds() {
            int open = 0;
            for (int round = 0; round < ROUNDS; round++) {
                open |= isOpen(round) ? 1 << round : 0;
            }
            return open;
        }

        int roundsWithSheet(int team) {
            int rounds = 0;
            for (int round = 0; round < ROUNDS; round++) {
                rounds |= hasSheet(team, round) ? 1 << round : 0;
            }
            return rounds;
        }

        int roundsTold(int team) {
            int rounds = 0;
            for (int round = 0; round < ROUNDS; round++) {
                rounds |= isTold(team, round) ? 1 << round : 0;
            }
            return rounds;
        }

        int teamsWithSheet(int round) {
            int set = 0;
            for (int team = 0; team < teams; team++) {
                set |= hasSheet(team, round) ? 1 << team : 0;
            }
            return set;
        }

        int teamsWithJoker(int round) {
            int set = 0;
            for (int team = 0; team < teams; team++) {
                set |= jokers[team] == round ? 1 << team : 0;
            }
            return set;
        }

        int teamsTold(int round) {
            int set = 0;
            for (int team = 0; team < teams; team++) {
                set |= isTold(team, round) ? 1 << team : 0;
            }
            return set;
        }

        // -- points and scores

        /** A mark of a team in a round as points. */
        private int withJoker(int team, int round, int mark) {
            return jokers[team] == round ? 2 * mark : mark;
        }

        int pointsOf(int team, int round) {
            int index = indexOf(team, round);
            return markers[index] == NONE ? 0 : withJoker(team, round, marks[index]);
        }

        int greatestPoints(int round) {
            int greatest = pointsOf(0, round);
            for (int team = 1; team < teams; team++) {
                greatest = Math.max(greatest, pointsOf(team, round));
            }
            return greatest;
        }

        int scoreOf(int team) {
            int score = -settings[FINE] * fines[team];
            for (int round = 0; round < ROUNDS; round++) {
                score += pointsOf(team, round);
            }
            return score;
        }

        int unlikeScores() {
            int unlike = 0;
            for (int team = 0; team < teams; team++) {
                unlike += isFirstWithItsScore(team) ? 1 : 0;
            }
            return unlike;
        }

        private boolean isFirstWithItsScore(int team) {
            int score = scoreOf(team);
            for (int lower = 0; lower < team; lower++) {
                if (scoreOf(lower) == score) {
                    return false;
                }
            }
            return true;
        }

        int allFines() {
            int all = 0;
            for (int team = 0; team < teams; team++) {
                all += fines[team];
            }
            return all;
        }

        int allLooks() {
            int all = 0;
            for (int round = 0; round < ROUNDS; round++) {
                all += Integer.bitCount(looked[round]);
            }
            return all;
        }

        // -- ranks

        int guessers() {
            int guessers = 0;
            for (int team = 0; team < teams; team++) {
                guessers += guesses[team] == NONE ? 0 : 1;
            }
            return guessers;
        }

        /** How far the guess of a team is from the truth; all are as far while the truth is not told. */
        private int distanceOf(int team) {
            if (truth == NONE || guesses[team] == NONE) {
                return FARTHEST;
            }
            return Math.abs(guesses[team] - truth);
        }

        private boolean isAhead(int team, int other) {
            int lead = scoreOf(team) - scoreOf(other);
            return lead > 0 || (lead == 0 && distanceOf(team) < distanceOf(other));
        }

        int rankOf(int team) {
            int rank = 1;
            for (int other = 0; other < teams; other++) {
                rank += isAhead(other, team) ? 1 : 0;
            }
            return rank;
        }

        /** The teams that are tied with a team, without itself. */
        int tiedWith(int team) {
            int tied = 0;
            for (int other = 0; other < teams; other++) {
                if (other != team && !isAhead(other, team) && !isAhead(team, other)) {
                    tied |= 1 << other;
                }
            }
            return tied;
        }

        /** How many teams of a set have lower numbers than a team. */
        private static int lowerIn(int set, int team) {
            return Integer.bitCount(set & ((1 << team) - 1));
        }

        /** The place of a team, from 0. */
        int placeOf(int team) {
            return rankOf(team) - 1 + lowerIn(tiedWith(team), team);
        }

        // -- coins

        int entries() {
            int entries = 0;
            for (int team = 0; team < teams; team++) {
                entries += paid[team];
            }
            return entries;
        }

        int ofTheHouse() {
            return entries() * settings[HOUSE] / 100;
        }

        int pot() {
            return entries() - ofTheHouse();
        }

        /** What a place gets of the pot; the places are told from 1, as ranks are. */
        private int prizeOfPlace(int place) {
            int pot = pot();
            int second = teams >= 2 ? pot * 30 / 100 : 0;
            int third = teams >= 3 ? pot * 10 / 100 : 0;
            switch (place) {
                case 1: return pot - second - third;
                case 2: return second;
                case 3: return third;
                default: return 0;
            }
        }

        int prizeOf(int team) {
            int rank = rankOf(team);
            int tied = tiedWith(team);
            int sharers = 1 + Integer.bitCount(tied);
            if (sharers < 1) {
                return 0;
            }
            int together = 0;
            for (int place = rank; place < rank + sharers; place++) {
                together += prizeOfPlace(place);
            }
            int leftOver = together % sharers;
            return together / sharers + (lowerIn(tied, team) < leftOver ? 1 : 0);
        }

        // -- what if

        int scoreWithJokerOn(int team, int jokerRound) {
            int score = -settings[FINE] * fines[team];
            for (int round = 0; round < ROUNDS; round++) {
                int mark = isTold(team, round) ? markOf(team, round) : 0;
                score += round == jokerRound ? 2 * mark : mark;
            }
            return score;
        }

        int bestRound(int team) {
            int best = 0;
            for (int round = 1; round < ROUNDS; round++) {
                if (scoreWithJokerOn(team, round) > scoreWithJokerOn(team, best)) {
                    best = round;
                }
            }
            return best;
        }

        /** Tells whether a team can hand in, and so earn, a sheet of the round yet. */
        private boolean canHandIn(int team, int round) {
            return isOpen(round) && !hasSheet(team, round);
        }

        private int greatestMark(int team, int round) {
            if (isTold(team, round)) {
                return markOf(team, round);
            }
            return hasSheet(team, round) || isOpen(round) ? BEST_MARK : 0;
        }

        int greatestScore(int team) {
            int score = -settings[FINE] * fines[team];
            boolean canPutJoker = false;
            for (int round = 0; round < ROUNDS; round++) {
                score += withJoker(team, round, greatestMark(team, round));
                canPutJoker |= jokers[team] == NONE && canHandIn(team, round);
            }
            return canPutJoker ? score + BEST_MARK : score;
        }

        boolean canReachOthers(int team) {
            int greatest = greatestScore(team);
            for (int other = 0; other < teams; other++) {
                if (other != team && scoreOf(other) > greatest) {
                    return false;
                }
            }
            return true;
        }

        int scoreIfLooked(int team) {
            int score = scoreOf(team) - settings[FINE] * wrongMarksToldBy(team);
            for (int round = 0; round < ROUNDS; round++) {
                if (isWrong(team, round)) {
                    int more = trueMark(team, round) - markOf(team, round);
                    score += withJoker(team, round, more);
                }
            }
            return score;
        }

        private int wrongMarksToldBy(int marker) {
            int wrong = 0;
            for (int team = 0; team < teams; team++) {
                for (int round = 0; round < ROUNDS; round++) {
                    wrong += markerOf(team, round) == marker && isWrong(team, round) ? 1 : 0;
                }
            }
            return wrong;
        }
    }
}
