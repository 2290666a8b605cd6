import java.math.BigInteger;
import java.util.ArrayList;
import java.util.Arrays;
import java.util.List;
import java.util.Random;

/**
 * Random runs of 512 calls, each answer held against a second reading of the document: with fractions of big numbers,
 * whole copies of the state for undo, and sets told one by one. The seeds are fixed, so each run is always the same.
 */
public final class ModelTest {
    static final long LOW = -1000000000L;
    static final long BEYOND = LOW - 1, MISSING = LOW - 2, SIZE = LOW - 3, KIND = LOW - 4, FULL = LOW - 5, NONE = LOW - 6;

    static final class Frac {
        final BigInteger up;
        final BigInteger low;

        Frac(BigInteger up, BigInteger low) {
            BigInteger g = up.gcd(low);
            if (low.signum() < 0) {
                g = g.negate();
            }
            this.up = up.divide(g);
            this.low = low.divide(g);
        }

        static Frac of(long up, long low) {
            return new Frac(BigInteger.valueOf(up), BigInteger.valueOf(low));
        }

        Frac plus(Frac o) {
            return new Frac(up.multiply(o.low).add(o.up.multiply(low)), low.multiply(o.low));
        }

        Frac minus(Frac o) {
            return plus(new Frac(o.up.negate(), o.low));
        }

        Frac times(Frac o) {
            return new Frac(up.multiply(o.up), low.multiply(o.low));
        }

        Frac by(Frac o) {
            return new Frac(up.multiply(o.low), low.multiply(o.up));
        }

        boolean isZero() {
            return up.signum() == 0;
        }

        long floor() {
            BigInteger[] parts = up.divideAndRemainder(low);
            return parts[0].longValueExact() - (parts[1].signum() < 0 ? 1 : 0);
        }

        long ceiling() {
            return -new Frac(up.negate(), low).floor();
        }

        Frac size() {
            return new Frac(up.abs(), low);
        }

        long part(boolean below) {
            return (below ? low : up).longValueExact();
        }
    }

    /** All that undo brings back: rows of plain numbers, so that a copy is simple. */
    static final class State {
        List<List<int[]>> pictures = new ArrayList<>();
        List<int[]> marks = new ArrayList<>();
        List<Integer> signs = new ArrayList<>();
        List<List<int[]>> fields = new ArrayList<>();
        int[] shown = new int[64];
        int[] digs = new int[64];

        State() {
            Arrays.fill(shown, 1);
            Arrays.fill(digs, 2);
        }

        State copyOf() {
            State copy = new State();
            for (List<int[]> rows : pictures) {
                copy.pictures.add(rowsOf(rows));
            }
            copy.marks = rowsOf(marks);
            copy.signs = new ArrayList<>(signs);
            for (List<int[]> rows : fields) {
                copy.fields.add(rowsOf(rows));
            }
            copy.shown = shown.clone();
            copy.digs = digs.clone();
            return copy;
        }

        private static List<int[]> rowsOf(List<int[]> rows) {
            List<int[]> copy = new ArrayList<>();
            for (int[] row : rows) {
                copy.add(row.clone());
            }
            return copy;
        }
    }

    static final class Model {
        State now = new State();
        final ArrayList<State> before = new ArrayList<>();
        final int[][] sheets = new int[4][];
        final int[] bits = new int[4];
        long findings;

        void keep() {
            before.add(now.copyOf());
            if (before.size() > 20) {
                before.remove(0);
            }
        }

        boolean noPicture(int p) {
            return p < 0 || p >= now.pictures.size();
        }

        static boolean out(int n, int least, int most) {
            return n < least || n > most;
        }

        /** a and b of the line, or null. */
        Frac[] line(int p, int way) {
            List<int[]> places = now.pictures.get(p);
            Frac n = Frac.of(places.size(), 1);
            boolean unlike = false;
            Frac u = Frac.of(0, 1);
            Frac x = Frac.of(0, 1);
            for (int[] place : places) {
                unlike |= place[way] != places.get(0)[way];
                u = u.plus(Frac.of(place[way], 1));
                x = x.plus(Frac.of(place[way + 2], 1));
            }
            if (!unlike) {
                return null;
            }
            u = u.by(n);
            x = x.by(n);
            Frac above = Frac.of(0, 1);
            Frac under = Frac.of(0, 1);
            for (int[] place : places) {
                Frac du = Frac.of(place[way], 1).minus(u);
                above = above.plus(du.times(Frac.of(place[way + 2], 1).minus(x)));
                under = under.plus(du.times(du));
            }
            Frac b = above.by(under);
            return new Frac[] {x.minus(b.times(u)), b};
        }

        static Frac on(Frac[] line, int at) {
            return line[0].plus(line[1].times(Frac.of(at, 1)));
        }

        long doubtOf(int p) {
            long most = 0;
            for (int way = 0; way < 2; way++) {
                Frac[] line = line(p, way);
                if (line == null) {
                    return NONE;
                }
                for (int[] place : now.pictures.get(p)) {
                    most = Math.max(most, Frac.of(place[way + 2], 1).minus(on(line, place[way])).size().ceiling());
                }
            }
            return most + 1;
        }

        long spot(int mark, int way) {
            int[] m = now.marks.get(mark);
            return on(line(m[0], way), m[2 + way]).floor();
        }

        boolean agreeing(int a, int b, long[] doubts, long[][] spots) {
            int[] one = now.marks.get(a);
            int[] two = now.marks.get(b);
            if (one[0] == two[0] || one[1] != two[1] || doubts[one[0]] == NONE || doubts[two[0]] == NONE) {
                return false;
            }
            long reach = doubts[one[0]] + doubts[two[0]];
            return Math.abs(spots[a][0] - spots[b][0]) <= reach && Math.abs(spots[a][1] - spots[b][1]) <= reach;
        }

        boolean[][] agreements() {
            int n = now.marks.size();
            long[] doubts = new long[now.pictures.size()];
            for (int p = 0; p < doubts.length; p++) {
                doubts[p] = doubtOf(p);
            }
            long[][] spots = new long[n][2];
            for (int m = 0; m < n; m++) {
                for (int way = 0; way < 2; way++) {
                    if (doubts[now.marks.get(m)[0]] != NONE) {
                        spots[m][way] = spot(m, way);
                    }
                }
            }
            boolean[][] joined = new boolean[n][n];
            for (int a = 0; a < n; a++) {
                for (int b = 0; b < n; b++) {
                    joined[a][b] = agreeing(a, b, doubts, spots);
                }
            }
            return joined;
        }

        List<List<Integer>> groupsNow() {
            boolean[][] joined = agreements();
            int n = joined.length;
            for (int k = 0; k < n; k++) {
                for (int a = 0; a < n; a++) {
                    for (int b = 0; b < n; b++) {
                        joined[a][b] |= joined[a][k] && joined[k][b];
                    }
                }
            }
            List<List<Integer>> groups = new ArrayList<>();
            for (int a = 0; a < n; a++) {
                List<Integer> group = new ArrayList<>(List.of(a));
                boolean least = true;
                for (int b = 0; b < n; b++) {
                    if (b != a && joined[a][b]) {
                        group.add(b);
                        least &= b > a;
                    }
                }
                if (least) {
                    groups.add(group);
                }
            }
            return groups;
        }

        /** The end of the row, or null with the wrong place in where[0]. */
        List<Integer> read(int[] facts, int[] where) {
            List<Integer> row = new ArrayList<>();
            for (int i = 0; i < now.signs.size(); i++) {
                int sign = now.signs.get(i);
                where[0] = i;
                if (sign < 5) {
                    row.add(facts[sign - 1]);
                } else if (sign < 20) {
                    row.add(sign - 10);
                } else if (sign == 22) {
                    if (row.isEmpty()) {
                        return null;
                    }
                    row.add(row.remove(row.size() - 1) == 0 ? 1 : 0);
                } else {
                    if (row.size() < 2) {
                        return null;
                    }
                    int last = row.remove(row.size() - 1);
                    int first = row.remove(row.size() - 1);
                    boolean is = sign == 20 ? first < last : sign == 21 ? first == last
                            : sign == 23 ? first != 0 && last != 0 : first != 0 || last != 0;
                    row.add(is ? 1 : 0);
                }
                if (row.size() > 6) {
                    return null;
                }
            }
            where[0] = now.signs.size();
            return row.size() == 1 ? row : null;
        }

        static boolean isSign(int v) {
            return v >= 1 && v <= 4 || v >= 10 && v <= 24;
        }

        static int cell(int soil, int crop, int dry) {
            return soil * 16 + crop * 4 + dry;
        }

        boolean noField(int f) {
            return f < 0 || f >= now.fields.size();
        }

        boolean seenIn(int f) {
            boolean any = false;
            List<int[]> rows = now.fields.get(f);
            for (int i = 1; i < rows.size(); i++) {
                any |= rows.get(i)[2] == 1;
            }
            return any;
        }

        Frac beliefOf(int f) {
            List<int[]> rows = now.fields.get(f);
            int[] about = rows.get(0);
            if (seenIn(f)) {
                return Frac.of(1, 1);
            }
            Frac one = Frac.of(1, 1);
            Frac p = Frac.of(about[1], 100);
            for (int i = 1; i < rows.size(); i++) {
                int c = cell(about[0], rows.get(i)[0], rows.get(i)[1]);
                Frac hidden = p.times(one.minus(Frac.of(now.shown[c], now.digs[c])));
                p = hidden.by(hidden.plus(one.minus(p)));
            }
            return p;
        }

        /** What the plan is and brings. */
        long[] flight(int hours, int crop, int dry) {
            long[] best = {0, 0, 0};
            for (int set = (1 << now.fields.size()) - 1; set >= 0; set--) {
                long gain = 0;
                int spent = 0;
                for (int f = 0; f < now.fields.size(); f++) {
                    int[] about = now.fields.get(f).get(0);
                    if ((set & 1 << f) != 0) {
                        spent += about[2];
                        int c = cell(about[0], crop, dry);
                        if (about[3] == 0 && !seenIn(f)) {
                            gain += Frac.of(100L * about[1] * now.shown[c], now.digs[c]).floor();
                        }
                    }
                }
                if (spent <= hours && (gain > best[1] || gain == best[1] && spent <= best[2])) {
                    best = new long[] {set, gain, spent};
                }
            }
            return best;
        }

        static final int[] NO_FACTS = new int[4];

        long act(String name, int[] a) {
            long answer = answer(name, a);
            if (answer < -999999999L) {
                findings++;
            }
            return answer;
        }

        private long answer(String name, int[] a) {
            switch (name) {
                case "picture":
                    if (now.pictures.size() == 6) {
                        return FULL;
                    }
                    keep();
                    now.pictures.add(new ArrayList<>());
                    return now.pictures.size() - 1;
                case "place":
                    if (noPicture(a[0]) || out(a[1], 0, 999) || out(a[2], 0, 999) || out(a[3], 0, 999) || out(a[4], 0, 999)) {
                        return BEYOND;
                    }
                    if (now.pictures.get(a[0]).size() == 8) {
                        return FULL;
                    }
                    keep();
                    now.pictures.get(a[0]).add(new int[] {a[1], a[2], a[3], a[4]});
                    return now.pictures.get(a[0]).size();
                case "unplace": {
                    if (noPicture(a[0])) {
                        return BEYOND;
                    }
                    List<int[]> places = now.pictures.get(a[0]);
                    if (places.isEmpty()) {
                        return NONE;
                    }
                    keep();
                    places.remove(places.size() - 1);
                    return places.size();
                }
                case "led": {
                    if (noPicture(a[0]) || out(a[2], 0, 999)) {
                        return BEYOND;
                    }
                    Frac[] line = line(a[0], a[1]);
                    return line == null ? NONE : on(line, a[2]).part(a[3] == 1);
                }
                case "miss": {
                    if (noPicture(a[0])) {
                        return BEYOND;
                    }
                    Frac[] line = line(a[0], a[1]);
                    if (line == null) {
                        return NONE;
                    }
                    Frac sum = Frac.of(0, 1);
                    for (int[] place : now.pictures.get(a[0])) {
                        Frac rest = Frac.of(place[a[1] + 2], 1).minus(on(line, place[a[1]]));
                        sum = sum.plus(rest.times(rest));
                    }
                    return sum.part(a[2] == 1);
                }
                case "doubt":
                    return noPicture(a[0]) ? BEYOND : doubtOf(a[0]);
                case "mark": {
                    boolean round = a[1] == 1 || a[1] == 3;
                    if (noPicture(a[0]) || out(a[1], 0, 3) || out(a[2], 0, 999) || out(a[3], 0, 999)
                            || out(a[4], round ? 1 : 0, round ? 99 : 0) || out(a[5], 0, round ? 15 : 0)) {
                        return BEYOND;
                    }
                    if (now.marks.size() == 20) {
                        return FULL;
                    }
                    keep();
                    now.marks.add(a.clone());
                    return now.marks.size() - 1;
                }
                default:
                    return answerOfMarks(name, a);
            }
        }

        private long answerOfMarks(String name, int[] a) {
            int n = now.marks.size();
            switch (name) {
                case "as": {
                    if (out(a[0], 0, n - 1) || out(a[1], 0, 3)) {
                        return BEYOND;
                    }
                    int kind = now.marks.get(a[0])[1];
                    return a[1] == 0 || a[1] == kind || a[1] == 1 && kind == 3 ? a[0] : KIND;
                }
                case "at":
                    if (out(a[0], 0, n - 1)) {
                        return BEYOND;
                    }
                    return line(now.marks.get(a[0])[0], a[1]) == null ? NONE : spot(a[0], a[1]);
                case "agree":
                    if (out(a[0], 0, n - 1) || out(a[1], 0, n - 1)) {
                        return BEYOND;
                    }
                    return agreements()[a[0]][a[1]] ? 1 : 0;
                case "group": {
                    List<List<Integer>> groups = groupsNow();
                    for (int g = 0; g < groups.size(); g++) {
                        if (groups.get(g).contains(a[0])) {
                            return g;
                        }
                    }
                    return BEYOND;
                }
                case "groups":
                    return groupsNow().size();
                case "rivals": {
                    List<List<Integer>> groups = groupsNow();
                    if (out(a[0], 0, groups.size() - 1)) {
                        return BEYOND;
                    }
                    int pairs = 0;
                    for (int one : groups.get(a[0])) {
                        for (int two : groups.get(a[0])) {
                            pairs += one < two && now.marks.get(one)[0] == now.marks.get(two)[0] ? 1 : 0;
                        }
                    }
                    return pairs;
                }
                case "sign":
                    if (!isSign(a[0])) {
                        return BEYOND;
                    }
                    if (now.signs.size() == 12) {
                        return FULL;
                    }
                    keep();
                    now.signs.add(a[0]);
                    return now.signs.size();
                case "blank": {
                    keep();
                    int had = now.signs.size();
                    now.signs.clear();
                    return had;
                }
                case "wrong": {
                    int[] where = new int[1];
                    return read(NO_FACTS, where) == null ? where[0] : -1;
                }
                case "is": {
                    List<List<Integer>> groups = groupsNow();
                    if (out(a[0], 0, groups.size() - 1)) {
                        return BEYOND;
                    }
                    int size = 0;
                    int kind = 0;
                    java.util.TreeSet<Integer> sides = new java.util.TreeSet<>();
                    for (int m : groups.get(a[0])) {
                        int[] mark = now.marks.get(m);
                        size = Math.max(size, mark[4]);
                        kind = mark[1];
                        for (int side = 0; side < 4; side++) {
                            if ((mark[5] >> side & 1) == 1) {
                                sides.add(side);
                            }
                        }
                    }
                    List<Integer> row = read(new int[] {groups.get(a[0]).size(), size, sides.size(), kind}, new int[1]);
                    return row == null ? KIND : row.get(0) != 0 ? 1 : 0;
                }
                default:
                    return answerOfFields(name, a);
            }
        }

        private long answerOfFields(String name, int[] a) {
            switch (name) {
                case "field":
                    if (out(a[0], 0, 3) || out(a[1], 1, 99) || out(a[2], 1, 9)) {
                        return BEYOND;
                    }
                    if (now.fields.size() == 8) {
                        return FULL;
                    }
                    keep();
                    now.fields.add(new ArrayList<>(List.of(new int[] {a[0], a[1], a[2], 0})));
                    return now.fields.size() - 1;
                case "look":
                    if (noField(a[0]) || out(a[1], 0, 3) || out(a[2], 0, 3)) {
                        return BEYOND;
                    }
                    if (now.fields.get(a[0]).get(0)[3] == 1) {
                        return KIND;
                    }
                    if (now.fields.get(a[0]).size() == 5) {
                        return FULL;
                    }
                    keep();
                    now.fields.get(a[0]).add(new int[] {a[1], a[2], a[3]});
                    return now.fields.get(a[0]).size() - 1;
                case "belief":
                    return noField(a[0]) ? BEYOND : beliefOf(a[0]).part(a[1] == 1);
                case "showing":
                    if (out(a[0], 0, 3) || out(a[1], 0, 3) || out(a[2], 0, 3)) {
                        return BEYOND;
                    }
                    return (a[3] == 1 ? now.digs : now.shown)[cell(a[0], a[1], a[2])];
                case "dig": {
                    if (noField(a[0])) {
                        return BEYOND;
                    }
                    if (now.fields.get(a[0]).get(0)[3] == 1) {
                        return KIND;
                    }
                    keep();
                    List<int[]> rows = now.fields.get(a[0]);
                    rows.get(0)[3] = 1;
                    for (int i = 1; i < rows.size() && a[1] == 1; i++) {
                        int c = cell(rows.get(0)[0], rows.get(i)[0], rows.get(i)[1]);
                        now.digs[c]++;
                        now.shown[c] += rows.get(i)[2];
                    }
                    return a[1] == 1 ? rows.size() - 1 : 0;
                }
                case "plan":
                case "brings":
                    if (out(a[0], 0, 99) || out(a[1], 0, 3) || out(a[2], 0, 3)) {
                        return BEYOND;
                    }
                    return flight(a[0], a[1], a[2])[name.equals("plan") ? 0 : 1];
                default:
                    return answerOfSheets(name, a);
            }
        }

        private long answerOfSheets(String name, int[] a) {
            switch (name) {
                case "sheet":
                    if (out(a[0], 0, 3) || a[1] != 0 && a[1] != 8 && a[1] != 16 && a[1] != 32) {
                        return BEYOND;
                    }
                    if (a[2] < 0) {
                        return SIZE;
                    }
                    if (a[2] > 16) {
                        return BEYOND;
                    }
                    bits[a[0]] = a[1];
                    sheets[a[0]] = a[1] == 0 ? null : new int[a[2]];
                    return a[1] == 0 ? 0 : a[2];
                case "put":
                    if (out(a[0], 0, 3)) {
                        return BEYOND;
                    }
                    if (sheets[a[0]] == null) {
                        return MISSING;
                    }
                    if (out(a[1], 0, sheets[a[0]].length - 1)) {
                        return BEYOND;
                    }
                    sheets[a[0]][a[1]] = bits[a[0]] == 8 ? (byte) a[2] : bits[a[0]] == 16 ? (short) a[2] : a[2];
                    return 0;
                case "copy": {
                    if (out(a[0], 0, 3) || out(a[2], 0, 3)) {
                        return BEYOND;
                    }
                    if (sheets[a[0]] == null || sheets[a[2]] == null) {
                        return MISSING;
                    }
                    if (bits[a[0]] != bits[a[2]]) {
                        return KIND;
                    }
                    if (a[1] < 0 || a[3] < 0 || a[4] < 0 || (long) a[1] + a[4] > sheets[a[0]].length
                            || (long) a[3] + a[4] > sheets[a[2]].length) {
                        return BEYOND;
                    }
                    int[] old = sheets[a[0]].clone();
                    for (int i = 0; i < a[4]; i++) {
                        sheets[a[2]][a[3] + i] = old[a[1] + i];
                    }
                    return a[4];
                }
                case "text": {
                    if (out(a[0], 0, 3)) {
                        return BEYOND;
                    }
                    if (sheets[a[0]] == null) {
                        return MISSING;
                    }
                    if (sheets[a[0]].length > 12) {
                        return SIZE;
                    }
                    for (int number : sheets[a[0]]) {
                        if (!isSign(number)) {
                            return BEYOND;
                        }
                    }
                    keep();
                    now.signs.clear();
                    for (int number : sheets[a[0]]) {
                        now.signs.add(number);
                    }
                    return now.signs.size();
                }
                case "undo":
                    if (before.isEmpty()) {
                        return NONE;
                    }
                    now = before.remove(before.size() - 1);
                    return before.size();
                default:
                    return a[0] == 0 ? now.pictures.size() : a[0] == 1 ? now.marks.size() : a[0] == 2 ? now.fields.size()
                            : a[0] == 3 ? now.signs.size() : a[0] == 4 ? findings : BEYOND;
            }
        }
    }

    static long ask(CornDesk desk, String name, int[] a) {
        switch (name) {
            case "picture": return desk.picture();
            case "place": return desk.place(a[0], a[1], a[2], a[3], a[4]);
            case "unplace": return desk.unplace(a[0]);
            case "led": return desk.led(a[0], a[1] == 1, a[2], a[3] == 1);
            case "miss": return desk.miss(a[0], a[1] == 1, a[2] == 1);
            case "doubt": return desk.doubt(a[0]);
            case "mark": return desk.mark(a[0], a[1], a[2], a[3], a[4], a[5]);
            case "as": return desk.as(a[0], a[1]);
            case "at": return desk.at(a[0], a[1] == 1);
            case "agree": return desk.agree(a[0], a[1]);
            case "group": return desk.group(a[0]);
            case "groups": return desk.groups();
            case "rivals": return desk.rivals(a[0]);
            case "sign": return desk.sign(a[0]);
            case "blank": return desk.blank();
            case "wrong": return desk.wrong();
            case "is": return desk.is(a[0]);
            case "field": return desk.field(a[0], a[1], a[2]);
            case "look": return desk.look(a[0], a[1], a[2], a[3] == 1);
            case "belief": return desk.belief(a[0], a[1] == 1);
            case "showing": return desk.showing(a[0], a[1], a[2], a[3] == 1);
            case "dig": return desk.dig(a[0], a[1] == 1);
            case "plan": return desk.plan(a[0], a[1], a[2]);
            case "brings": return desk.brings(a[0], a[1], a[2]);
            case "sheet": return desk.sheet(a[0], a[1], a[2]);
            case "put": return desk.put(a[0], a[1], a[2]);
            case "copy": return desk.copy(a[0], a[1], a[2], a[3], a[4]);
            case "text": return desk.text(a[0]);
            case "undo": return desk.undo();
            default: return desk.all(a[0]);
        }
    }

    /**
     * How each call's numbers are drawn: p picture, m mark, g group, f field, s sheet, z spot on one run's scale,
     * b boolean, c level 0 to 3, h chance, o field hours, O plan hours, v sign, w bits, n count, V number for a sheet,
     * K kind with the size and gates behind it (two numbers more), a what.
     */
    static final String[][] CALLS = {
        {"picture", ""}, {"place", "pzzzz"}, {"place", "pzzzz"}, {"place", "pzzzz"}, {"place", "pzzzz"}, {"place", "pzzzz"},
        {"unplace", "p"}, {"led", "pbzb"}, {"led", "pbzb"}, {"miss", "pbb"}, {"doubt", "p"},
        {"mark", "pKzz"}, {"mark", "pKzz"}, {"mark", "pKzz"}, {"as", "mc"}, {"at", "mb"}, {"at", "mb"}, {"agree", "mm"},
        {"agree", "mm"}, {"group", "m"}, {"group", "m"}, {"groups", ""}, {"rivals", "g"}, {"rivals", "g"},
        {"sign", "v"}, {"sign", "v"}, {"sign", "v"}, {"blank", ""}, {"wrong", ""}, {"wrong", ""}, {"is", "g"}, {"is", "g"},
        {"field", "cho"}, {"field", "cho"}, {"look", "fccb"}, {"look", "fccb"}, {"look", "fccb"}, {"belief", "fb"},
        {"belief", "fb"}, {"showing", "cccb"}, {"dig", "fb"}, {"plan", "Occ"}, {"brings", "Occ"},
        {"sheet", "swn"}, {"put", "snV"}, {"put", "snV"}, {"put", "snV"}, {"copy", "snsnn"}, {"text", "s"}, {"text", "s"},
        {"undo", ""}, {"undo", ""}, {"undo", ""}, {"all", "a"}, {"all", "a"},
    };

    static final int[] WILD = {-1, 4, 5, 6, 7, 8, 9, 10, 16, 17, 20, 25, 99, 100, 999, 1000, -1000, Integer.MAX_VALUE,
        Integer.MIN_VALUE, Integer.MAX_VALUE - 5, 0, 1, 2, 3};

    static int draw(Random random, char what, int[] scale) {
        switch (what) {
            case 'p': return random.nextInt(scale[1]);
            case 'm': return random.nextInt(12);
            case 'g': return random.nextInt(6);
            case 'f': return random.nextInt(4 + random.nextInt(5));
            case 's': return random.nextInt(3);
            case 'z': return random.nextInt(8) == 0 ? scale[0] - 1 : random.nextInt(scale[0]);
            case 'b': return random.nextInt(2);
            case 'c': return random.nextInt(scale[2]);
            case 'h': return 1 + random.nextInt(99);
            case 'o': return 1 + random.nextInt(9);
            case 'O': return random.nextInt(30);
            case 'v': return random.nextInt(2) == 0 ? 1 + random.nextInt(4) : 10 + random.nextInt(15);
            case 'w': return new int[] {0, 8, 8, 8, 8, 16, 32}[random.nextInt(7)];
            case 'n': return random.nextInt(6);
            case 'V': return (random.nextInt(2) == 0 ? 1 + random.nextInt(4) : 10 + random.nextInt(15)) + 256 * random.nextInt(2);
            default: return random.nextInt(5);
        }
    }

    static int[] numbers(Random random, String[] call, int[] scale) {
        int[] a = new int[6];
        if (call[0].equals("mark")) {
            int kind = random.nextInt(scale[2]);
            boolean round = kind == 1 || kind == 3;
            a = new int[] {draw(random, 'p', scale), kind, draw(random, 'z', scale), draw(random, 'z', scale),
                round ? 1 + random.nextInt(99) : 0, round ? random.nextInt(16) : 0};
        } else {
            for (int i = 0; i < call[1].length(); i++) {
                a[i] = draw(random, call[1].charAt(i), scale);
            }
        }
        if (random.nextInt(12) == 0) {
            int i = random.nextInt(6);
            boolean isSwitch = i < call[1].length() && call[1].charAt(i) == 'b';
            a[i] = isSwitch ? a[i] : WILD[random.nextInt(WILD.length)];
        }
        return a;
    }

    public static void main(String[] args) {
        int runs = args.length > 0 ? Integer.parseInt(args[0]) : 400;
        int wrong = 0;
        for (int run = 0; run < runs && wrong < 10; run++) {
            Random random = new Random(run);
            int[] scale = {new int[] {3, 6, 12, 30, 100, 1000}[random.nextInt(6)], 1 + random.nextInt(6), 1 + random.nextInt(4)};
            CornDesk desk = new CornDesk();
            Model model = new Model();
            for (int i = 0; i < 512; i++) {
                String[] call = CALLS[random.nextInt(CALLS.length)];
                int[] a = numbers(random, call, scale);
                long due = model.act(call[0], a);
                long got = ask(desk, call[0], a);
                if (got != due) {
                    wrong++;
                    System.out.println("run " + run + ", call " + i + ": " + call[0] + Arrays.toString(a) + " answered "
                            + got + ", due is " + due);
                    break;
                }
            }
        }
        System.out.println(wrong == 0 ? runs + " runs are as the model has them" : wrong + " runs are not");
        if (wrong != 0) {
            System.exit(1);
        }
    }
}
