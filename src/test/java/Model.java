import java.util.ArrayList;
import java.util.HashSet;
import java.util.List;
import java.util.Set;
import java.util.TreeMap;

/** The document told once more, as plainly as can be, to compare long runs with. */
final class Model {
    static final int NO_SUCH = -1, BAD_VALUE = -2, BAD_TEXT = -3, TOO_MANY = -4, NOT_POSSIBLE = -5, NONE = -6;

    static final class Sheet {
        String text;
        Integer mark;
        int marker = NONE;
        boolean looked;

        Sheet copy() {
            Sheet s = new Sheet();
            s.text = text;
            s.mark = mark;
            s.marker = marker;
            s.looked = looked;
            return s;
        }
    }

    static final class Team {
        int paid;
        int joker = NONE;
        int fines;
        int guess = NONE;
        TreeMap<Integer, Sheet> sheets = new TreeMap<>();

        Team copy() {
            Team t = new Team();
            t.paid = paid;
            t.joker = joker;
            t.fines = fines;
            t.guess = guess;
            sheets.forEach((round, sheet) -> t.sheets.put(round, sheet.copy()));
            return t;
        }
    }

    static final class All {
        int entry = 10, house = 10, minus = 0, fine = 2;
        int truth = NONE;
        List<Team> teams = new ArrayList<>();
        TreeMap<Integer, String> keys = new TreeMap<>();

        All copy() {
            All a = new All();
            a.entry = entry;
            a.house = house;
            a.minus = minus;
            a.fine = fine;
            a.truth = truth;
            teams.forEach(t -> a.teams.add(t.copy()));
            a.keys.putAll(keys);
            return a;
        }
    }

    private All all = new All();
    private final List<All> history = new ArrayList<>();
    private final All[] slots = new All[2];
    private String pad = "";

    private void change() {
        history.add(all.copy());
        if (history.size() > 6) {
            history.remove(0);
        }
    }

    private boolean noTeam(int t) {
        return t < 0 || t >= all.teams.size();
    }

    private boolean noRound(int r) {
        return r < 0 || r > 7;
    }

    private boolean open(int r) {
        return !all.keys.containsKey(r);
    }

    private Sheet sheetOf(int t, int r) {
        return all.teams.get(t).sheets.get(r);
    }

    private int trueMark(int t, int r) {
        int m = 0;
        String s = sheetOf(t, r).text;
        for (int i = 0; i < 10; i++) {
            if (s.charAt(i) != '-') {
                m += s.charAt(i) == all.keys.get(r).charAt(i) ? 1 : -all.minus;
            }
        }
        return m;
    }

    private int mark(int t, int r) {
        Sheet s = sheetOf(t, r);
        return s == null || s.mark == null ? 0 : s.mark;
    }

    private int points(int t, int r) {
        return mark(t, r) * (all.teams.get(t).joker == r ? 2 : 1);
    }

    private int score(int t) {
        int sum = 0;
        for (int r = 0; r < 8; r++) {
            sum += points(t, r);
        }
        return sum - all.fine * all.teams.get(t).fines;
    }

    private boolean ahead(int a, int b) {
        if (score(a) != score(b)) {
            return score(a) > score(b);
        }
        if (all.truth == NONE) {
            return false;
        }
        int ga = all.teams.get(a).guess;
        int gb = all.teams.get(b).guess;
        if (ga == NONE || gb == NONE) {
            return ga != NONE && gb == NONE;
        }
        return Math.abs(ga - all.truth) < Math.abs(gb - all.truth);
    }

    private int rank(int t) {
        int rank = 1;
        for (int o = 0; o < all.teams.size(); o++) {
            rank += ahead(o, t) ? 1 : 0;
        }
        return rank;
    }

    private List<Integer> ranked() {
        List<Integer> order = new ArrayList<>();
        for (int t = 0; t < all.teams.size(); t++) {
            order.add(t);
        }
        order.sort((a, b) -> rank(a) != rank(b) ? rank(a) - rank(b) : a - b);
        return order;
    }

    private int entries() {
        return all.teams.stream().mapToInt(t -> t.paid).sum();
    }

    private int pot() {
        return entries() - entries() * all.house / 100;
    }

    private int prize(int team) {
        int n = all.teams.size();
        int[] places = new int[n + 1];
        if (n >= 2) {
            places[2] = pot() * 30 / 100;
        }
        if (n >= 3) {
            places[3] = pot() * 10 / 100;
        }
        places[1] = pot() - (n >= 2 ? places[2] : 0) - (n >= 3 ? places[3] : 0);
        List<Integer> group = new ArrayList<>();
        int sum = 0;
        List<Integer> order = ranked();
        for (int i = 0; i < n; i++) {
            if (rank(order.get(i)) == rank(team)) {
                group.add(order.get(i));
                sum += places[i + 1];
            }
        }
        int[] got = new int[group.size()];
        for (int coin = 0; coin < sum; coin++) {
            got[coin % got.length]++;
        }
        return got[group.indexOf(team)];
    }

    int set(int setting, int value) {
        int[] least = {1, 0, 0, 0};
        int[] greatest = {100, 50, 2, 9};
        if (setting < 0 || setting > 3 || value < least[setting] || value > greatest[setting]) {
            return BAD_VALUE;
        }
        change();
        int old = count(9 + setting);
        switch (setting) {
            case 0 -> all.entry = value;
            case 1 -> all.house = value;
            case 2 -> all.minus = value;
            default -> all.fine = value;
        }
        return old;
    }

    int team() {
        if (all.teams.size() == 10) {
            return TOO_MANY;
        }
        if (!all.keys.isEmpty()) {
            return NOT_POSSIBLE;
        }
        change();
        Team t = new Team();
        t.paid = all.entry;
        all.teams.add(t);
        return all.teams.size() - 1;
    }

    int hand(int t, int r) {
        if (noTeam(t) || noRound(r)) {
            return NO_SUCH;
        }
        if (!pad.matches("[0-9-]{10}")) {
            return BAD_TEXT;
        }
        if (!open(r) || sheetOf(t, r) != null) {
            return NOT_POSSIBLE;
        }
        change();
        Sheet s = new Sheet();
        s.text = pad;
        pad = "";
        all.teams.get(t).sheets.put(r, s);
        return s.text.replace("-", "").length();
    }

    int joker(int t, int r) {
        if (noTeam(t) || noRound(r)) {
            return NO_SUCH;
        }
        if (all.teams.get(t).joker != NONE || !open(r) || sheetOf(t, r) != null) {
            return NOT_POSSIBLE;
        }
        change();
        all.teams.get(t).joker = r;
        return (int) all.teams.stream().filter(x -> x.joker == r).count();
    }

    int key(int r) {
        if (noRound(r)) {
            return NO_SUCH;
        }
        if (!pad.matches("[0-9]{10}")) {
            return BAD_TEXT;
        }
        if (!open(r)) {
            return NOT_POSSIBLE;
        }
        change();
        all.keys.put(r, pad);
        pad = "";
        return (int) all.teams.stream().filter(x -> x.sheets.containsKey(r)).count();
    }

    int mark(int m, int t, int r, int mark) {
        if (noTeam(m) || noTeam(t) || noRound(r)) {
            return NO_SUCH;
        }
        if (m == t || mark < -20 || mark > 10) {
            return BAD_VALUE;
        }
        if (open(r) || sheetOf(t, r) == null || sheetOf(t, r).mark != null) {
            return NOT_POSSIBLE;
        }
        change();
        sheetOf(t, r).mark = mark;
        sheetOf(t, r).marker = m;
        return 1;
    }

    int look(int t, int r) {
        if (noTeam(t) || noRound(r)) {
            return NO_SUCH;
        }
        Sheet s = sheetOf(t, r);
        if (s == null || s.mark == null || s.looked) {
            return NOT_POSSIBLE;
        }
        change();
        return lookAt(t, r);
    }

    private int lookAt(int t, int r) {
        Sheet s = sheetOf(t, r);
        int was = s.mark;
        s.looked = true;
        s.mark = trueMark(t, r);
        if (was == s.mark) {
            return 0;
        }
        all.teams.get(s.marker).fines++;
        return 1;
    }

    int guess(int t, int guess) {
        if (noTeam(t)) {
            return NO_SUCH;
        }
        if (guess < 0 || guess > 9999) {
            return BAD_VALUE;
        }
        if (all.truth != NONE) {
            return NOT_POSSIBLE;
        }
        change();
        int old = all.teams.get(t).guess;
        all.teams.get(t).guess = guess;
        return old;
    }

    int truth(int truth) {
        if (truth < 0 || truth > 9999) {
            return BAD_VALUE;
        }
        if (all.truth != NONE) {
            return NOT_POSSIBLE;
        }
        change();
        all.truth = truth;
        return (int) all.teams.stream().filter(t -> t.guess != NONE).count();
    }

    int ofTeam(int t, int what) {
        if (noTeam(t)) {
            return NO_SUCH;
        }
        Team team = all.teams.get(t);
        int set = 0;
        switch (what) {
            case 0:
                return score(t) + 1000;
            case 1:
                return rank(t);
            case 2:
                return prize(t);
            case 3:
                return team.joker;
            case 4:
                return team.fines;
            case 5:
                return team.guess;
            case 6:
                for (int r : team.sheets.keySet()) {
                    set += 1 << r;
                }
                return set;
            case 7:
                for (int r : team.sheets.keySet()) {
                    set += team.sheets.get(r).mark != null ? 1 << r : 0;
                }
                return set;
            case 8:
                return team.paid;
            case 9:
                for (int o = 0; o < all.teams.size(); o++) {
                    set += o != t && rank(o) == rank(t) ? 1 << o : 0;
                }
                return set;
            default:
                return BAD_VALUE;
        }
    }

    int ofRound(int r, int what) {
        if (noRound(r)) {
            return NO_SUCH;
        }
        if (what < 0 || what > 5) {
            return BAD_VALUE;
        }
        if (what == 0) {
            return open(r) ? 1 : 0;
        }
        int set = 0;
        int best = NONE;
        for (int t = 0; t < all.teams.size(); t++) {
            Sheet s = sheetOf(t, r);
            boolean in = what == 1 && s != null || what == 2 && all.teams.get(t).joker == r
                || what == 3 && s != null && s.mark != null || what == 4 && s != null && s.looked;
            set += in ? 1 << t : 0;
            best = Math.max(best, points(t, r) + 100);
        }
        return what == 5 ? best : set;
    }

    int sheet(int t, int r, int what) {
        if (noTeam(t) || noRound(r) || sheetOf(t, r) == null) {
            return NO_SUCH;
        }
        Sheet s = sheetOf(t, r);
        switch (what) {
            case 0:
                return s.mark == null ? NONE : s.mark + 100;
            case 1:
                return s.marker;
            case 2:
                return points(t, r) + 100;
            case 3:
                return open(r) ? NONE : trueMark(t, r) + 100;
            case 4:
                return s.text.replace("-", "").length();
            default:
                return BAD_VALUE;
        }
    }

    int answer(int t, int r, int question) {
        if (t != NONE && noTeam(t) || noRound(r)) {
            return NO_SUCH;
        }
        String text;
        if (t == NONE) {
            text = all.keys.get(r);
        } else {
            text = sheetOf(t, r) == null ? null : sheetOf(t, r).text;
        }
        if (text == null) {
            return NO_SUCH;
        }
        if (question < 0 || question > 9) {
            return BAD_VALUE;
        }
        return text.charAt(question) == '-' ? NONE : text.charAt(question) - '0';
    }

    int at(int place) {
        return place < 0 || place >= all.teams.size() ? NO_SUCH : ranked().get(place);
    }

    int count(int what) {
        switch (what) {
            case 0:
                return all.teams.size();
            case 1:
                return entries();
            case 2:
                return entries() * all.house / 100;
            case 3:
                return pot();
            case 4:
                int set = 255;
                for (int r : all.keys.keySet()) {
                    set -= 1 << r;
                }
                return set;
            case 5:
                return all.teams.stream().mapToInt(t -> t.fines).sum();
            case 6:
                return (int) all.teams.stream().flatMap(t -> t.sheets.values().stream()).filter(s -> s.looked).count();
            case 7:
                return all.truth;
            case 8:
                Set<Integer> scores = new HashSet<>();
                for (int t = 0; t < all.teams.size(); t++) {
                    scores.add(score(t));
                }
                return scores.size();
            case 9:
                return all.entry;
            case 10:
                return all.house;
            case 11:
                return all.minus;
            case 12:
                return all.fine;
            case 13:
                return pad.length();
            case 14:
                return history.size();
            default:
                return BAD_VALUE;
        }
    }

    int bestJoker(int t, int what) {
        if (noTeam(t)) {
            return NO_SUCH;
        }
        if (what != 0 && what != 1) {
            return BAD_VALUE;
        }
        Team team = all.teams.get(t);
        int put = team.joker;
        int round = -1;
        int best = -100000;
        for (int r = 0; r < 8; r++) {
            team.joker = r;
            if (score(t) > best) {
                best = score(t);
                round = r;
            }
        }
        team.joker = put;
        return what == 0 ? round : best + 1000;
    }

    int most(int t) {
        if (noTeam(t)) {
            return NO_SUCH;
        }
        Team team = all.teams.get(t);
        int sum = -all.fine * team.fines;
        boolean free = false;
        for (int r = 0; r < 8; r++) {
            Sheet s = team.sheets.get(r);
            int mark;
            if (s != null) {
                mark = s.mark == null ? 10 : s.mark;
            } else if (open(r)) {
                mark = 10;
                free = true;
            } else {
                mark = 0;
            }
            sum += team.joker == r ? mark + mark : mark;
        }
        return sum + 1000 + (team.joker == NONE && free ? 10 : 0);
    }

    int canWin() {
        int set = 0;
        for (int t = 0; t < all.teams.size(); t++) {
            boolean can = true;
            for (int o = 0; o < all.teams.size(); o++) {
                can &= o == t || most(t) - 1000 >= score(o);
            }
            set += can ? 1 << t : 0;
        }
        return set;
    }

    int ifLooked(int t) {
        if (noTeam(t)) {
            return NO_SUCH;
        }
        All kept = all;
        all = kept.copy();
        for (int o = 0; o < all.teams.size(); o++) {
            for (int r : all.teams.get(o).sheets.keySet()) {
                Sheet s = sheetOf(o, r);
                if (s.mark != null && !s.looked) {
                    lookAt(o, r);
                }
            }
        }
        int answer = score(t) + 1000;
        all = kept;
        return answer;
    }

    int wrongMarks() {
        int wrong = 0;
        for (int t = 0; t < all.teams.size(); t++) {
            for (int r : all.teams.get(t).sheets.keySet()) {
                Sheet s = sheetOf(t, r);
                wrong += s.mark != null && !s.looked && s.mark != trueMark(t, r) ? 1 : 0;
            }
        }
        return wrong;
    }

    int put(long characters) {
        StringBuilder text = new StringBuilder();
        boolean ended = false;
        for (int shift = 0; shift < 64; shift += 8) {
            int code = (int) (characters >>> shift & 255);
            if (code == 0) {
                ended = true;
            } else if (ended || code < 33 || code > 126) {
                return BAD_VALUE;
            } else {
                text.insert(0, (char) code);
            }
        }
        if (text.length() == 0) {
            return BAD_VALUE;
        }
        if (pad.length() + text.length() > 80) {
            return TOO_MANY;
        }
        pad += text;
        return pad.length();
    }

    int wipe() {
        int length = pad.length();
        pad = "";
        return length;
    }

    int fault() {
        for (int i = 0; i < pad.length(); i++) {
            if (i == 10 || "0123456789-".indexOf(pad.charAt(i)) < 0) {
                return i;
            }
        }
        return pad.length() < 10 ? pad.length() : NONE;
    }

    int undo() {
        if (history.isEmpty()) {
            return NOT_POSSIBLE;
        }
        all = history.remove(history.size() - 1);
        return history.size();
    }

    int save(int slot) {
        if (slot != 0 && slot != 1) {
            return BAD_VALUE;
        }
        slots[slot] = all.copy();
        return all.teams.size();
    }

    int restore(int slot) {
        if (slot != 0 && slot != 1) {
            return BAD_VALUE;
        }
        if (slots[slot] == null) {
            return NOT_POSSIBLE;
        }
        change();
        all = slots[slot].copy();
        return all.teams.size();
    }
}
