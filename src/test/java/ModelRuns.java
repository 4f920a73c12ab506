import java.lang.reflect.InvocationTargetException;
import java.lang.reflect.Method;
import java.util.ArrayDeque;
import java.util.ArrayList;
import java.util.Arrays;
import java.util.HashSet;
import java.util.List;
import java.util.Random;
import java.util.Set;

/** Random runs of calls, the same at each start, answered by Embayed and by a second reading of the document below. */
public final class ModelRuns {
    private static final String[] NAMES = {"letter", "bay", "cell", "set", "wind", "tide", "lays", "now", "run", "head", "wear", "haul", "sail", "anchor", "cut", "axe", "over",
        "still", "clears", "line", "lighter", "holds", "beachBest", "plan", "stood", "worth", "light", "night", "log", "judge", "image", "on", "count"};
    private static final int[] ODDS = {6, 1, 6, 12, 4, 4, 12, 50, 14, 12, 12, 5, 9, 5, 5, 4, 4, 6, 2, 5, 5, 5, 2, 4, 6, 6, 2, 7, 9, 5, 2, 3, 10};
    private static final int RUNS = 600;
    private static final int CALLS = 512;

    public static void main(String[] args) throws Exception {
        int wrong = 0;
        for (int run = 0; run < RUNS && wrong < 5; run++) {
            if (!sameAnswers(new Random(1000 + run), run)) wrong++;
        }
        System.out.println(wrong == 0 ? "model: " + RUNS + " runs are alike" : "model: runs are not alike");
        if (wrong != 0) System.exit(1);
    }

    private static boolean sameAnswers(Random r, int run) throws Exception {
        Embayed x = new Embayed();
        Model model = new Model();
        ArrayDeque<int[]> ahead = new ArrayDeque<>();
        List<String> told = new ArrayList<>();
        for (int c = 0; c < CALLS; c++) {
            while (ahead.isEmpty()) tellAhead(r, model, ahead, c);
            int[] call = ahead.remove();
            int want = model.answer(call);
            String name = NAMES[call[0]] + Arrays.toString(Arrays.copyOfRange(call, 1, call.length));
            told.add(name + "=" + want);
            int got = ask(x, call);
            if (got != want) {
                System.out.println("run " + run + " call " + c + ": " + name + " answered " + got + ", due is " + want + " after " + told);
                return false;
            }
        }
        return true;
    }

    private static int ask(Embayed x, int[] call) throws Exception {
        Class<?>[] kinds = new Class<?>[call.length - 1];
        Object[] values = new Object[call.length - 1];
        for (int i = 1; i < call.length; i++) {
            kinds[i - 1] = int.class;
            values[i - 1] = call[i];
        }
        Method m = Embayed.class.getMethod(NAMES[call[0]], kinds);
        try {
            return (Integer) m.invoke(x, values);
        } catch (InvocationTargetException e) {
            throw new IllegalStateException(NAMES[call[0]] + Arrays.toString(call) + " threw", e.getCause());
        }
    }

    private static void tellAhead(Random r, Model model, ArrayDeque<int[]> ahead, int c) {
        if (c == 0 && r.nextInt(12) != 0 || r.nextInt(110) == 0) {
            tellBay(r, ahead);
        } else if (r.nextInt(60) == 0) {
            tellTrueLog(r, model, ahead);
        } else {
            ahead.add(someCall(r, model));
        }
    }

    private static void tellBay(Random r, ArrayDeque<int[]> ahead) {
        int rows = 2 + r.nextInt(7);
        int columns = 2 + r.nextInt(7);
        int landOdds = 2 + r.nextInt(8);
        for (int row = 0; row < rows; row++) {
            if (row > 0) ahead.add(new int[] {0, '/'});
            for (int column = 0; column < columns; column++) {
                int sign = r.nextInt(landOdds) == 0 ? '#' : r.nextInt(14) == 0 ? 'b' : r.nextInt(5) == 0 ? '1' + r.nextInt(9) : '.';
                ahead.add(new int[] {0, sign});
            }
        }
        if (r.nextInt(15) == 0) ahead.add(new int[] {0, "./b#0x".charAt(r.nextInt(6))});
        ahead.add(new int[] {1});
        ahead.add(new int[] {6, r.nextInt(rows * columns)});
        ahead.add(new int[] {6, r.nextInt(rows * columns)});
    }

    private static void tellTrueLog(Random r, Model model, ArrayDeque<int[]> ahead) {
        if (!model.state.laid || !model.log.isEmpty()) return;
        Model.State s = model.state.copy();
        int n = 1 + r.nextInt(12);
        for (int i = 0; i < n; i++) {
            model.ten(s);
            int cell = s.row < 0 ? 99 : s.row * model.chart[0].length + s.column;
            ahead.add(new int[] {28, r.nextInt(25) == 0 ? r.nextInt(100) : cell});
        }
        ahead.add(new int[] {29});
    }

    private static int[] someCall(Random r, Model model) {
        int all = 0;
        for (int o : ODDS) all += o;
        int at = r.nextInt(all);
        int which = 0;
        while (at >= ODDS[which]) at -= ODDS[which++];
        int cells = model.chart.length == 0 ? 1 : model.chart.length * model.chart[0].length;
        switch (which) {
            case 0: return new int[] {which, odd(r, "./#b123456789\u00ff".charAt(r.nextInt(14)))};
            case 2: case 6: case 17: return new int[] {which, odd(r, r.nextInt(cells + 1))};
            case 3: {
                int what = r.nextInt(7);
                int[] least = {0, 1, 0, 0, 1, 0, 0};
                int[] most = {9, 9, 9, 60, 3, 9, 99};
                return new int[] {which, odd(r, what), odd(r, least[what] + r.nextInt(most[what] - least[what] + 1))};
            }
            case 4: return new int[] {which, odd(r, r.nextInt(3) == 0 ? r.nextInt(1000) : r.nextInt(40)), odd(r, r.nextInt(8))};
            case 5: return new int[] {which, odd(r, r.nextInt(3) == 0 ? r.nextInt(1000) : r.nextInt(40)), odd(r, r.nextInt(6))};
            case 7: return new int[] {which, odd(r, r.nextInt(14))};
            case 8: return new int[] {which, odd(r, r.nextInt(8) == 0 ? 1 + r.nextInt(99) : 1 + r.nextInt(3))};
            case 9: case 10: case 11: return new int[] {which, odd(r, r.nextInt(8))};
            case 12: return new int[] {which, odd(r, r.nextInt(4))};
            case 21: return new int[] {which, odd(r, r.nextInt(cells)), odd(r, r.nextInt(4)), odd(r, r.nextInt(6))};
            case 23: return new int[] {which, odd(r, r.nextInt(5)), odd(r, r.nextInt(5) - 1)};
            case 24: return new int[] {which, odd(r, r.nextInt(cells)), odd(r, r.nextInt(8))};
            case 25: return new int[] {which, odd(r, r.nextInt(12)), odd(r, r.nextInt(8))};
            case 27: return new int[] {which, odd(r, 1 + r.nextInt(99)), r.nextInt()};
            case 28: return new int[] {which, odd(r, r.nextInt(100))};
            case 32: return new int[] {which, odd(r, r.nextInt(17))};
            default: return new int[] {which};
        }
    }

    private static int odd(Random r, int v) {
        if (r.nextInt(40) != 0) return v;
        int[] odds = {-1, -2, 0, 4, 5, 6, 8, 10, 29, 30, 31, 61, 64, 99, 100, 256, 999, 1000, Integer.MIN_VALUE, Integer.MAX_VALUE, -1000000000};
        return odds[r.nextInt(odds.length)];
    }

    /** The second reading: plainest form, no thought of room or speed. */
    static final class Model {
        char[][] chart = {};
        int[] set = {3, 3, 0, 40, 2, 5, 30};
        List<int[]> shifts = new ArrayList<>();
        List<int[]> tides = new ArrayList<>();
        State state = new State();
        String letters = "";
        List<Integer> log = new ArrayList<>();
        int[] refused = new int[7];
        Object[] image = null;

        static final class State implements Cloneable {
            boolean laid;
            int row, column, head, sail, masts, anchors, water, gone, slid, ten, kind, lastTide, guns = -1, turn, forcedWind = -1, forcedFrom;
            boolean lastDark;

            State copy() {
                try {
                    return (State) clone();
                } catch (CloneNotSupportedException e) {
                    throw new IllegalStateException(e);
                }
            }
        }

        int no(int why) {
            refused[-why]++;
            return why;
        }

        static int latest(List<int[]> book, int ten) {
            int best = -1;
            for (int i = book.size() - 1; i >= 0; i--) {
                if (book.get(i)[0] <= ten && (best < 0 || book.get(i)[0] > book.get(best)[0])) best = i;
            }
            return best < 0 ? 0 : book.get(best)[1];
        }

        int windOf(State s) {
            if (s.forcedWind >= 0 && s.ten >= s.forcedFrom) return s.forcedWind;
            return (latest(shifts, s.ten) + s.turn) % 8;
        }

        int tideOf(State s) {
            return latest(tides, s.ten);
        }

        static int between(int a, int b) {
            int d = Math.abs(a - b);
            return d > 4 ? 8 - d : d;
        }

        int cells() {
            return chart.length == 0 ? 0 : chart.length * chart[0].length;
        }

        /** LAND 0, DEPTH, BEACH 30, beyond -1. */
        int at(int row, int column) {
            if (row < 0 || column < 0 || row >= chart.length || column >= chart[0].length) return -1;
            char c = chart[row][column];
            return c == '#' ? 0 : c == 'b' ? 30 : c == '.' ? 20 : c - '0';
        }

        boolean lies(int row, int column) {
            int ground = at(row, column);
            return ground >= set[1] && ground >= 1 && ground <= 20;
        }

        static int[] step(int row, int column, int d) {
            int[][] ways = {{-1, 0}, {-1, 1}, {0, 1}, {1, 1}, {1, 0}, {1, -1}, {0, -1}, {-1, -1}};
            return new int[] {row + ways[d][0], column + ways[d][1]};
        }

        static boolean over(State s) {
            return s.kind >= 5;
        }

        void end(State s, int kind) {
            s.kind = kind;
            s.lastTide = tideOf(s);
            s.lastDark = s.ten >= set[6];
        }

        void move(State s, int d) {
            int[] to = step(s.row, s.column, d);
            s.row = to[0];
            s.column = to[1];
            int ground = at(s.row, s.column);
            if (ground < 0) {
                s.row = -1;
                end(s, 8);
            } else if (ground == 0) {
                end(s, 6);
            } else if (ground == 30) {
                end(s, 5);
            } else if (ground + tideOf(s) < set[1]) {
                end(s, 6);
            }
        }

        void ten(State s) {
            if (!over(s)) {
                int wind = windOf(s);
                int lee = (wind + 4) % 8;
                int off = between(wind, s.head);
                int pace = off >= set[4] ? Math.min(s.sail, s.masts) * (off + 1) : 0;
                if (s.kind == 4) {
                    if (2 * set[0] + s.masts > 2 * Math.min(9, at(s.row, s.column) + tideOf(s)) + 3) move(s, lee);
                } else {
                    s.gone += pace;
                    s.slid += set[0] + (9 - (s.guns < 0 ? set[5] : s.guns)) / 3 + s.water / 25;
                    for (; s.gone >= 10 && !over(s); ) {
                        s.gone -= 10;
                        move(s, s.head);
                    }
                    for (; s.slid >= 10 && !over(s); ) {
                        s.slid -= 10;
                        move(s, lee);
                    }
                }
                if (!over(s)) {
                    s.water += set[2] - set[3] / 10;
                    if (s.water < 0) s.water = 0;
                    if (s.water >= 100) {
                        s.water = 100;
                        end(s, 7);
                    }
                }
                if (!over(s) && s.kind != 4) s.kind = pace > 0 && off <= 1 ? 0 : 1;
            }
            s.ten++;
        }

        State after(State s, int tens) {
            State t = s.copy();
            for (int i = 0; i < tens; i++) ten(t);
            return t;
        }

        int lives(State s) {
            int crew = set[3];
            if (s.kind == 5) return beached(s.lastTide, s.lastDark);
            if (s.kind == 6) return s.lastDark ? crew / 10 : crew * 4 / 10;
            return s.kind == 7 ? 0 : crew;
        }

        int beached(int tide, boolean dark) {
            int hundredths = dark ? 20 + tide * 10 : 50 + tide * 10;
            return Math.min(set[3], set[3] * hundredths / 100);
        }

        boolean turns(State s, int d) {
            return s.laid && !over(s) && s.kind != 4 && between(d, windOf(s)) >= set[4];
        }

        boolean throughWind(State s, int d) {
            int turn = (d - s.head + 8) % 8;
            if (turn == 4 || turn == 0) return false;
            int sense = turn < 4 ? 1 : 7;
            for (int at = (s.head + sense) % 8; at != d; at = (at + sense) % 8) {
                if (at == windOf(s)) return true;
            }
            return false;
        }

        void wearTo(State s, int d) {
            s.head = d;
            move(s, (windOf(s) + 4) % 8);
            if (!over(s)) s.kind = 2;
        }

        State laid(int cell) {
            State s = new State();
            s.laid = true;
            s.row = cell / chart[0].length;
            s.column = cell % chart[0].length;
            s.sail = 1;
            s.masts = 3;
            s.anchors = 2;
            s.kind = 1;
            s.head = (windOf(s) + 4) % 8;
            return s;
        }

        static boolean prefix(String text) {
            String[] rows = text.split("/", -1);
            if (rows.length > 8) return false;
            for (int i = 0; i < rows.length; i++) {
                boolean last = i == rows.length - 1;
                int most = i == 0 ? 8 : rows[0].length();
                if (!rows[i].matches("[#b1-9.]*") || rows[i].length() > most) return false;
                if (!last && (rows[i].length() < 2 || i > 0 && rows[i].length() < most)) return false;
            }
            return true;
        }

        int bay() {
            String text = letters;
            letters = "";
            for (int n = 1; n <= text.length(); n++) {
                if (!prefix(text.substring(0, n))) return -1000 - (n - 1);
            }
            String[] rows = text.split("/", -1);
            if (rows.length < 2 || rows[rows.length - 1].length() != rows[0].length()) return -1000 - text.length();
            chart = new char[rows.length][];
            for (int i = 0; i < rows.length; i++) chart[i] = rows[i].toCharArray();
            state = new State();
            return cells();
        }

        int still(int cell) {
            int columns = chart[0].length;
            if (!lies(cell / columns, cell % columns)) return -9;
            int wind = windOf(state);
            Set<Integer> here = new HashSet<>();
            Set<String> been = new HashSet<>();
            here.add(cell);
            for (int moves = 1; !here.isEmpty(); moves++) {
                Set<Integer> next = new HashSet<>();
                for (int c : here) {
                    for (int d = 0; d < 8; d++) {
                        if (between(d, wind) < set[4]) continue;
                        int[] to = step(c / columns, c % columns, d);
                        if (at(to[0], to[1]) < 0) return moves;
                        if (!lies(to[0], to[1])) continue;
                        if (moves % 3 == 0) {
                            to = step(to[0], to[1], (wind + 4) % 8);
                            if (at(to[0], to[1]) < 0) return moves;
                            if (!lies(to[0], to[1])) continue;
                        }
                        int n = to[0] * columns + to[1];
                        if (been.add(n + " " + moves % 3)) next.add(n);
                    }
                }
                here = next;
            }
            return -9;
        }

        int tensTillOver(State from) {
            State s = from.copy();
            for (int t = 0; t < 60; t++) {
                if (over(s)) return t;
                ten(s);
            }
            return 60;
        }

        void act(State s, int act) {
            if (act == 1 && turns(s, (s.head + 2) % 8)) wearTo(s, (s.head + 2) % 8);
            else if (act == 2 && turns(s, (s.head + 6) % 8)) wearTo(s, (s.head + 6) % 8);
            else if (act == 3 && !over(s) && s.kind != 4 && s.anchors > 0) s.kind = 4;
            else if (act == 4 && !over(s) && s.sail < 3) s.sail++;
        }

        /** The best row from here: its LIVES, then its acts. */
        int[] best(State s, int done, int n) {
            if (done == n) return new int[] {lives(after(s, 20 - n))};
            int[] found = null;
            for (int act = 0; act < 5; act++) {
                State t = s.copy();
                act(t, act);
                ten(t);
                int[] rest = best(t, done + 1, n);
                if (found == null || rest[0] > found[0]) {
                    found = new int[rest.length + 1];
                    found[0] = rest[0];
                    found[1] = act;
                    System.arraycopy(rest, 1, found, 2, rest.length - 1);
                }
            }
            return found;
        }

        int light() {
            int best = -9;
            int most = -1;
            for (int c = 0; c < cells(); c++) {
                int row = c / chart[0].length;
                int column = c % chart[0].length;
                if (at(row, column) != 0) continue;
                int seen = 0;
                for (int d = 0; d < 8; d++) {
                    int[] to = step(row, column, d);
                    while (at(to[0], to[1]) > 0) {
                        if (at(to[0], to[1]) != 30) seen++;
                        to = step(to[0], to[1], d);
                    }
                }
                if (seen > most) {
                    most = seen;
                    best = c;
                }
            }
            return best;
        }

        int night(int n, int z) {
            State s = state.copy();
            long seed = z;
            for (int t = 0; t < n; t++) {
                seed = (int) (seed * 1664525L + 1013904223L);
                if ((seed & 0x7fffffffL) / 256 % 10 == 0) {
                    seed = (int) (seed * 1664525L + 1013904223L);
                    s.turn += (int) ((seed & 0x7fffffffL) / 256 % 8);
                }
                ten(s);
            }
            return lives(s);
        }

        int now(int what) {
            switch (what) {
                case 0: return state.row < 0 ? -9 : state.row * chart[0].length + state.column;
                case 1: return state.head;
                case 2: return state.sail;
                case 3: return state.masts;
                case 4: return state.anchors;
                case 5: return state.water;
                case 6: return state.gone;
                case 7: return state.slid;
                case 8: return state.ten;
                case 9: return state.kind;
                case 10: return windOf(state);
                case 11: return tideOf(state);
                case 12: return set[5];
                default: return lives(state);
            }
        }

        boolean noCell(int cell) {
            return cell < 0 || cell >= cells();
        }

        boolean noWay(int d) {
            return d < 0 || d > 7;
        }

        boolean liesIn(int cell) {
            return lies(cell / chart[0].length, cell % chart[0].length);
        }

        boolean sails() {
            return state.laid && !over(state);
        }

        int answer(int[] c) {
            return c[0] < 17 ? answerActs(c) : answerQuestions(c);
        }

        int answerActs(int[] c) {
            int a = c.length > 1 ? c[1] : 0;
            int b = c.length > 2 ? c[2] : 0;
            switch (c[0]) {
                case 0:
                    if (a < 0) return no(-4);
                    if (a > 255 || letters.length() == 80) return no(-6);
                    letters += (char) a;
                    return letters.length();
                case 1: return bay();
                case 2: return noCell(a) ? no(-1) : at(a / chart[0].length, a % chart[0].length);
                case 3: {
                    if (a < 0 || a > 6) return no(-2);
                    if (b < new int[] {0, 1, 0, 0, 1, 0, 0}[a]) return no(-4);
                    if (b > new int[] {9, 9, 9, 60, 3, 9, 99}[a]) return no(-6);
                    int was = set[a];
                    set[a] = b;
                    return was;
                }
                case 4:
                    if (noWay(b)) return no(-1);
                    if (a < 0) return no(-4);
                    if (a > 999 || shifts.size() == 8) return no(-6);
                    shifts.add(new int[] {a, b});
                    return shifts.size();
                case 5:
                    if (a < 0 || b < 0) return no(-4);
                    if (a > 999 || b > 5 || tides.size() == 8) return no(-6);
                    tides.add(new int[] {a, b});
                    return tides.size();
                case 6:
                    if (noCell(a)) return no(-1);
                    if (!liesIn(a)) return no(-3);
                    state = laid(a);
                    return state.head;
                case 7:
                    if (a < 0 || a > 13) return no(-2);
                    return state.laid ? now(a) : no(-3);
                case 8:
                    if (a < 1) return no(-4);
                    if (a > 99) return no(-6);
                    if (!state.laid) return no(-3);
                    state = after(state, a);
                    return state.kind;
                case 9:
                    if (noWay(a)) return no(-1);
                    if (!turns(state, a) || set[0] > 5 && throughWind(state, a)) return no(-3);
                    state.head = a;
                    return between(a, windOf(state));
                case 10:
                    if (noWay(a)) return no(-1);
                    if (!turns(state, a)) return no(-3);
                    wearTo(state, a);
                    return state.kind;
                case 11:
                    if (noWay(a)) return no(-1);
                    if (!turns(state, a) || state.anchors == 0) return no(-3);
                    state.head = a;
                    state.kind = 3;
                    return --state.anchors;
                case 12: {
                    if (a < 0) return no(-4);
                    if (a > 3) return no(-6);
                    if (!sails()) return no(-3);
                    int was = state.sail;
                    state.sail = a;
                    return was;
                }
                case 13:
                    if (!sails() || state.kind == 4 || state.anchors == 0) return no(-3);
                    state.kind = 4;
                    return state.anchors;
                case 14:
                    if (!state.laid || state.kind != 4) return no(-3);
                    state.kind = 1;
                    return --state.anchors;
                case 15: return !sails() || state.masts == 0 ? no(-3) : --state.masts;
                default: return !sails() || set[5] == 0 ? no(-3) : --set[5];
            }
        }

        int answerQuestions(int[] c) {
            int a = c.length > 1 ? c[1] : 0;
            int b = c.length > 2 ? c[2] : 0;
            switch (c[0]) {
                case 17: return noCell(a) ? no(-1) : still(a);
                case 18: {
                    int many = 0;
                    for (int cell = 0; cell < cells(); cell++) if (still(cell) > 0) many++;
                    return many;
                }
                case 19:
                    if (!state.laid) return no(-3);
                    for (int v = 1; v < 4; v++) {
                        State s = state.copy();
                        s.sail = v;
                        if (after(s, 60).kind == 8) return v;
                    }
                    return -9;
                case 20: {
                    if (!state.laid) return 1000000000 - no(-3);
                    State s = state.copy();
                    s.guns = 0;
                    return tensTillOver(s) - tensTillOver(state);
                }
                case 21: {
                    if (noCell(a)) return no(-1);
                    if (b < 0 || c[3] < 0) return no(-4);
                    if (b > 3 || c[3] > 5) return no(-6);
                    int ground = at(a / chart[0].length, a % chart[0].length);
                    if (ground < 1 || ground > 20) return no(-3);
                    return Math.min(9, (2 * Math.min(9, ground + c[3]) + 3 - b) / 2);
                }
                case 22: {
                    boolean any = false;
                    for (char[] row : chart) any |= new String(row).indexOf('b') >= 0;
                    int best = 30;
                    for (int t = 30; t >= 0; t--) {
                        if (beached(latest(tides, t), t >= set[6]) >= beached(latest(tides, best), best >= set[6])) best = t;
                    }
                    return any ? best : -9;
                }
                case 23:
                    if (a < 0 || b < -1) return no(-4);
                    if (a > 4) return no(-6);
                    if (!state.laid) return no(-3);
                    return b >= a ? -9 : best(state, 0, a)[b + 1];
                case 24: {
                    if (noCell(a) || noWay(b)) return no(-1);
                    if (!state.laid || !liesIn(a)) return no(-3);
                    int latest = -9;
                    for (int t = 0; t <= 40; t++) {
                        State s = laid(a);
                        s.head = b;
                        s.sail = state.sail;
                        s.ten = t;
                        if (after(s, 60).kind == 8) latest = t;
                    }
                    return latest;
                }
                case 25: {
                    int why = noWay(b) ? -1 : a < 0 ? -4 : a > 29 ? -6 : state.laid ? 0 : -3;
                    if (why != 0) return 1000000000 - no(why);
                    State s = state.copy();
                    s.forcedWind = b;
                    s.forcedFrom = s.ten + a;
                    return lives(after(s, 30)) - lives(after(state, 30));
                }
                case 26: return light();
                case 27:
                    if (a < 1) return no(-4);
                    if (a > 99) return no(-6);
                    return state.laid ? night(a, b) : no(-3);
                default: return answerLog(c, a);
            }
        }

        int answerLog(int[] c, int a) {
            switch (c[0]) {
                case 28:
                    if (a < 0) return no(-4);
                    if (a > 99 || log.size() == 12) return no(-6);
                    log.add(a);
                    return log.size();
                case 29: {
                    if (!state.laid) return no(-3);
                    int first = -9;
                    for (int i = log.size() - 1; i >= 0; i--) {
                        State s = after(state, i + 1);
                        int cell = s.row < 0 ? 99 : s.row * chart[0].length + s.column;
                        if (cell != log.get(i)) first = i;
                    }
                    log.clear();
                    return first;
                }
                case 30:
                    image = new Object[] {chart, set.clone(), new ArrayList<>(shifts), new ArrayList<>(tides), state.copy()};
                    return cells();
                case 31: return fromImage();
                default:
                    switch (a) {
                        case 0: return chart.length;
                        case 1: return chart.length == 0 ? 0 : chart[0].length;
                        case 2: return shifts.size();
                        case 3: return tides.size();
                        case 4: return log.size();
                        case 5: return letters.length();
                        case 6: return state.laid ? 1 : 0;
                        default: return a >= 11 && a <= 16 ? refused[a - 10] : -9;
                    }
            }
        }

        @SuppressWarnings("unchecked")
        int fromImage() {
            if (image == null) return no(-3);
            chart = (char[][]) image[0];
            set = ((int[]) image[1]).clone();
            shifts = new ArrayList<>((List<int[]>) image[2]);
            tides = new ArrayList<>((List<int[]>) image[3]);
            state = ((State) image[4]).copy();
            return cells();
        }
    }
}
