/** For each promise ordinary calls, the edges that the document names, and wrong inputs; the answers worked out by hand. */
public final class PromisesTest {
    private static final long LOW = -1000000000L;
    private static final long BEYOND = LOW - 1;
    private static final long MISSING = LOW - 2;
    private static final long SIZE = LOW - 3;
    private static final long KIND = LOW - 4;
    private static final long FULL = LOW - 5;
    private static final long NONE = LOW - 6;
    private static final int[] OUTSIDE_SPOTS = {-1, 1000, Integer.MIN_VALUE, Integer.MAX_VALUE};
    private static final int[] OUTSIDE_LEVELS = {-1, 4, Integer.MIN_VALUE, Integer.MAX_VALUE};

    private static int wrong;

    private static void due(int promise, String call, long got, long want) {
        if (got != want) {
            wrong++;
            System.out.println("promise " + promise + ": " + call + " answered " + got + ", due is " + want);
        }
    }

    /** A desk with one picture that leads u to u and v to v (DOUBT 1). */
    private static CornDesk straight(int pictures) {
        CornDesk desk = new CornDesk();
        for (int p = 0; p < pictures; p++) {
            desk.picture();
            desk.place(p, 0, 0, 0, 0);
            desk.place(p, 999, 999, 999, 999);
        }
        return desk;
    }

    private static void signs(CornDesk desk, int... signs) {
        desk.blank();
        for (int sign : signs) {
            desk.sign(sign);
        }
    }

    private static void newObject() {
        CornDesk desk = new CornDesk();
        for (int what = 0; what <= 4; what++) {
            due(1, "all(" + what + ")", desk.all(what), 0);
        }
        due(1, "groups", desk.groups(), 0);
        due(1, "wrong", desk.wrong(), 0);
        for (int soil = 0; soil < 4; soil++) {
            for (int crop = 0; crop < 4; crop++) {
                for (int dry = 0; dry < 4; dry++) {
                    due(1, "showing above", desk.showing(soil, crop, dry, false), 1);
                    due(1, "showing below", desk.showing(soil, crop, dry, true), 2);
                }
            }
        }
        due(1, "plan", desk.plan(99, 0, 0), 0);
        due(1, "brings", desk.brings(99, 0, 0), 0);
        for (int s = 0; s < 4; s++) {
            due(1, "put", desk.put(s, 0, 0), MISSING);
        }
        due(1, "undo", desk.undo(), NONE);
        CornDesk other = new CornDesk();
        desk.picture();
        due(1, "all(0) of another desk", other.all(0), 0);
    }

    private static void picture() {
        CornDesk desk = new CornDesk();
        for (int p = 0; p < 6; p++) {
            due(2, "picture", desk.picture(), p);
        }
        due(2, "a seventh picture", desk.picture(), FULL);
        due(2, "all(0)", desk.all(0), 6);
        desk.undo();
        due(2, "picture after undo", desk.picture(), 5);
    }

    private static void place() {
        CornDesk desk = new CornDesk();
        due(3, "place without picture", desk.place(0, 0, 0, 0, 0), BEYOND);
        desk.picture();
        for (int number : OUTSIDE_SPOTS) {
            due(3, "place u", desk.place(0, number, 0, 0, 0), BEYOND);
            due(3, "place v", desk.place(0, 0, number, 0, 0), BEYOND);
            due(3, "place x", desk.place(0, 0, 0, number, 0), BEYOND);
            due(3, "place y", desk.place(0, 0, 0, 0, number), BEYOND);
        }
        due(3, "place(-1)", desk.place(-1, 0, 0, 0, 0), BEYOND);
        due(3, "place(1)", desk.place(1, 0, 0, 0, 0), BEYOND);
        for (int i = 1; i <= 8; i++) {
            due(3, "place", desk.place(0, 999, 0, 0, 999), i);
        }
        due(3, "a ninth place", desk.place(0, 0, 0, 0, 0), FULL);
        due(3, "a wrong ninth place", desk.place(0, 0, 0, 0, 1000), BEYOND);
        due(3, "led", desk.led(0, false, 0, false), NONE);
    }

    private static void unplace() {
        CornDesk desk = new CornDesk();
        due(4, "unplace without picture", desk.unplace(0), BEYOND);
        desk.picture();
        due(4, "unplace(-1)", desk.unplace(-1), BEYOND);
        due(4, "unplace of none", desk.unplace(0), NONE);
        desk.place(0, 0, 0, 0, 0);
        desk.place(0, 10, 10, 20, 30);
        desk.place(0, 20, 20, 100, 100);
        due(4, "unplace", desk.unplace(0), 2);
        due(4, "led along u", desk.led(0, false, 5, false), 10);
        due(4, "led along v", desk.led(0, true, 5, false), 15);
        due(4, "unplace", desk.unplace(0), 1);
        due(4, "led with one place", desk.led(0, false, 5, false), NONE);
        due(4, "unplace", desk.unplace(0), 0);
        due(4, "unplace of none", desk.unplace(0), NONE);
    }

    private static void led() {
        CornDesk desk = new CornDesk();
        due(5, "led without picture", desk.led(0, false, 0, false), BEYOND);
        desk.picture();
        due(5, "led without places", desk.led(0, false, 0, false), NONE);
        for (int at : OUTSIDE_SPOTS) {
            due(5, "led beyond, ahead of none", desk.led(0, false, at, false), BEYOND);
        }
        // u: 1, 2, 4 to X: 3, 5, 8; the line is (21 + 23 u) / 14.
        desk.place(0, 1, 7, 3, 0);
        desk.place(0, 2, 7, 5, 1);
        desk.place(0, 4, 7, 8, 2);
        due(5, "led(0) above", desk.led(0, false, 0, false), 3);
        due(5, "led(0) below", desk.led(0, false, 0, true), 2);
        due(5, "led(1) above", desk.led(0, false, 1, false), 22);
        due(5, "led(1) below", desk.led(0, false, 1, true), 7);
        due(5, "led(999) above", desk.led(0, false, 999, false), 11499);
        due(5, "led(999) below", desk.led(0, false, 999, true), 7);
        due(5, "led along v, all alike", desk.led(0, true, 0, false), NONE);
        desk.picture();
        // v: 10, 12 to Y: 1, 0: the line is (12 - v) / 2.
        desk.place(1, 5, 10, 9, 1);
        desk.place(1, 5, 12, 9, 0);
        due(5, "led along u, all alike", desk.led(1, false, 0, false), NONE);
        due(5, "led 0 above", desk.led(1, true, 12, false), 0);
        due(5, "led 0 below", desk.led(1, true, 12, true), 1);
        due(5, "led below 0, above", desk.led(1, true, 15, false), -3);
        due(5, "led below 0, below", desk.led(1, true, 15, true), 2);
    }

    private static void miss() {
        CornDesk desk = new CornDesk();
        due(6, "miss without picture", desk.miss(0, false, false), BEYOND);
        desk.picture();
        due(6, "miss(-1)", desk.miss(-1, false, false), BEYOND);
        due(6, "miss without places", desk.miss(0, false, true), NONE);
        // Left over along u: -2/14, 3/14, -1/14; their squares together are 14/196.
        desk.place(0, 1, 7, 3, 0);
        desk.place(0, 2, 7, 5, 1);
        desk.place(0, 4, 7, 8, 2);
        due(6, "miss above", desk.miss(0, false, false), 1);
        due(6, "miss below", desk.miss(0, false, true), 14);
        due(6, "miss along v, all alike", desk.miss(0, true, false), NONE);
        desk.picture();
        desk.place(1, 0, 0, 0, 0);
        desk.place(1, 999, 0, 0, 999);
        desk.place(1, 0, 999, 999, 0);
        desk.place(1, 999, 999, 999, 999);
        due(6, "a flat line's miss above", desk.miss(1, false, false), 998001);
        due(6, "a flat line's miss below", desk.miss(1, false, true), 1);
        due(6, "a flat line's miss along v", desk.miss(1, true, false), 998001);
        desk.unplace(1);
        desk.unplace(1);
        due(6, "miss 0 above", desk.miss(1, false, false), 0);
        due(6, "miss 0 below", desk.miss(1, false, true), 1);
    }

    private static void doubt() {
        CornDesk desk = new CornDesk();
        due(7, "doubt without picture", desk.doubt(0), BEYOND);
        desk.picture();
        due(7, "doubt(-1)", desk.doubt(-1), BEYOND);
        due(7, "doubt without places", desk.doubt(0), NONE);
        desk.place(0, 0, 0, 0, 0);
        desk.place(0, 10, 0, 10, 0);
        due(7, "doubt with u alone", desk.doubt(0), NONE);
        desk.place(0, 20, 10, 20, 0);
        due(7, "doubt with nothing left over", desk.doubt(0), 1);
        desk.picture();
        desk.place(1, 0, 0, 0, 0);
        desk.place(1, 0, 5, 1, 5);
        desk.place(1, 9, 9, 0, 9);
        due(7, "doubt with 1/2 left over", desk.doubt(1), 2);
        desk.picture();
        // Along v 30 goes below the line by 20, the others above by 10: the size counts, to either side.
        desk.place(2, 0, 0, 0, 40);
        desk.place(2, 1, 1, 1, 10);
        desk.place(2, 2, 2, 2, 40);
        due(7, "doubt below the line", desk.doubt(2), 21);
        desk.picture();
        desk.place(3, 0, 0, 10, 0);
        desk.place(3, 1, 1, 40, 1);
        desk.place(3, 2, 2, 10, 2);
        due(7, "doubt above the line", desk.doubt(3), 21);
    }

    private static void mark() {
        CornDesk desk = new CornDesk();
        due(8, "mark without picture", desk.mark(0, 0, 0, 0, 0, 0), BEYOND);
        desk.picture();
        due(8, "mark(-1)", desk.mark(-1, 0, 0, 0, 0, 0), BEYOND);
        for (int kind : OUTSIDE_LEVELS) {
            due(8, "mark's kind", desk.mark(0, kind, 0, 0, 0, 0), BEYOND);
            due(8, "mark's kind with a size", desk.mark(0, kind, 0, 0, 1, 1), BEYOND);
        }
        for (int number : OUTSIDE_SPOTS) {
            due(8, "mark's u", desk.mark(0, 0, number, 0, 0, 0), BEYOND);
            due(8, "mark's v", desk.mark(0, 0, 0, number, 0, 0), BEYOND);
        }
        for (int kind = 0; kind < 4; kind++) {
            boolean round = kind == 1 || kind == 3;
            due(8, "kind " + kind + " with size 0", desk.mark(0, kind, 0, 0, 0, 0), round ? BEYOND : kind);
            due(8, "kind " + kind + " with size 1", desk.mark(0, kind, 0, 0, 1, 0), round ? kind : BEYOND);
            due(8, "kind " + kind + " with size 100", desk.mark(0, kind, 0, 0, 100, 0), BEYOND);
            due(8, "kind " + kind + " with size -1", desk.mark(0, kind, 0, 0, -1, 0), BEYOND);
            due(8, "kind " + kind + " with gates 16", desk.mark(0, kind, 0, 0, round ? 9 : 0, 16), BEYOND);
            due(8, "kind " + kind + " with gates -1", desk.mark(0, kind, 0, 0, round ? 9 : 0, -1), BEYOND);
        }
        due(8, "a line with gates", desk.mark(0, 2, 0, 0, 0, 1), BEYOND);
        due(8, "a mark with gates", desk.mark(0, 0, 0, 0, 0, 1), BEYOND);
        due(8, "the greatest", desk.mark(0, 3, 999, 999, 99, 15), 4);
        for (int m = 5; m < 20; m++) {
            due(8, "mark", desk.mark(0, 0, 0, 0, 0, 0), m);
        }
        due(8, "mark 20", desk.mark(0, 0, 0, 0, 0, 0), FULL);
        due(8, "a wrong mark 20", desk.mark(0, 0, 0, 0, 1, 0), BEYOND);
        due(8, "all(1)", desk.all(1), 20);
    }

    private static void as() {
        CornDesk desk = new CornDesk();
        due(9, "as without mark", desk.as(0, 0), BEYOND);
        desk.picture();
        long[][] under = {{1, 0, 0, 0}, {1, 1, 0, 0}, {1, 0, 1, 0}, {1, 1, 0, 1}};
        for (int m = 0; m < 4; m++) {
            boolean round = m == 1 || m == 3;
            desk.mark(0, m, 0, 0, round ? 1 : 0, 0);
        }
        for (int m = 0; m < 4; m++) {
            for (int kind = 0; kind < 4; kind++) {
                due(9, "as(" + m + ", " + kind + ")", desk.as(m, kind), under[m][kind] == 1 ? m : KIND);
            }
        }
        for (int kind : OUTSIDE_LEVELS) {
            due(9, "as kind " + kind, desk.as(0, kind), BEYOND);
        }
        due(9, "as(-1)", desk.as(-1, 0), BEYOND);
        due(9, "as(4)", desk.as(4, 0), BEYOND);
    }

    private static void at() {
        CornDesk desk = new CornDesk();
        due(10, "at without mark", desk.at(0, false), BEYOND);
        desk.picture();
        desk.mark(0, 0, 5, 6, 0, 0);
        due(10, "at without places", desk.at(0, false), NONE);
        desk.place(0, 0, 3, 10, 0);
        desk.place(0, 2, 3, 9, 0);
        due(10, "at, cut", desk.at(0, false), 7);
        due(10, "at along Y, v alike", desk.at(0, true), NONE);
        desk.place(0, 4, 5, 8, 10);
        due(10, "at along Y", desk.at(0, true), 15);
        due(10, "at(-1)", desk.at(-1, false), BEYOND);
        due(10, "at(1)", desk.at(1, false), BEYOND);
        desk.mark(0, 0, 21, 2, 0, 0);
        due(10, "at below 0, cut down", desk.at(1, false), -1);
        due(10, "at below 0 along Y", desk.at(1, true), -5);
    }

    private static void agree() {
        CornDesk desk = straight(3);
        due(11, "agree without marks", desk.agree(0, 0), BEYOND);
        desk.mark(0, 0, 100, 100, 0, 0);
        desk.mark(1, 0, 102, 98, 0, 0);
        desk.mark(1, 0, 103, 100, 0, 0);
        desk.mark(1, 0, 100, 97, 0, 0);
        desk.mark(1, 2, 100, 100, 0, 0);
        desk.mark(0, 0, 100, 100, 0, 0);
        due(11, "agree at both doubts", desk.agree(0, 1), 1);
        due(11, "agree the other way round", desk.agree(1, 0), 1);
        due(11, "agree with X too far", desk.agree(0, 2), 0);
        due(11, "agree with Y too far", desk.agree(0, 3), 0);
        due(11, "agree with another kind", desk.agree(0, 4), 0);
        due(11, "agree on one picture", desk.agree(0, 5), 0);
        due(11, "agree with itself", desk.agree(0, 0), 0);
        due(11, "agree(0, 6)", desk.agree(0, 6), BEYOND);
        due(11, "agree(6, 0)", desk.agree(6, 0), BEYOND);
        due(11, "agree(-1, 0)", desk.agree(-1, 0), BEYOND);
        due(11, "agree(0, -1)", desk.agree(0, -1), BEYOND);
        desk.unplace(1);
        due(11, "agree without doubt", desk.agree(0, 1), 0);
        due(11, "agree without doubt, the other way round", desk.agree(1, 0), 0);
        desk.place(1, 999, 999, 989, 999);
        due(11, "agree with 103 led to 102", desk.agree(0, 2), 1);
    }

    private static void groupsAndRivals() {
        CornDesk desk = straight(3);
        due(12, "group without marks", desk.group(0), BEYOND);
        due(13, "groups without marks", desk.groups(), 0);
        due(14, "rivals without marks", desk.rivals(0), BEYOND);
        desk.mark(0, 0, 500, 500, 0, 0);
        desk.mark(0, 0, 100, 100, 0, 0);
        desk.mark(1, 0, 104, 100, 0, 0);
        desk.mark(0, 0, 500, 500, 0, 0);
        due(13, "groups apart", desk.groups(), 4);
        due(12, "group apart", desk.group(3), 3);
        desk.mark(2, 0, 102, 100, 0, 0);
        due(12, "group by way of another", desk.group(2), 1);
        due(12, "group of the one between", desk.group(4), 1);
        due(12, "group behind", desk.group(3), 2);
        due(12, "group(0)", desk.group(0), 0);
        due(13, "groups", desk.groups(), 3);
        due(14, "rivals of none", desk.rivals(1), 0);
        desk.mark(0, 0, 101, 100, 0, 0);
        desk.mark(0, 0, 102, 100, 0, 0);
        desk.mark(1, 0, 103, 100, 0, 0);
        due(14, "rivals: three pairs of one picture, one of another", desk.rivals(1), 4);
        due(14, "rivals(0)", desk.rivals(0), 0);
        due(14, "rivals(3)", desk.rivals(3), BEYOND);
        due(14, "rivals(-1)", desk.rivals(-1), BEYOND);
        due(12, "group(-1)", desk.group(-1), BEYOND);
        due(12, "group(8)", desk.group(8), BEYOND);
        desk.unplace(2);
        due(12, "group where the one between has no doubt", desk.group(4), 4);
        for (int m = 8; m < 20; m++) {
            desk.mark(0, 0, 800, 800, 0, 0);
        }
        due(13, "groups of 20", desk.groups(), 17);
        due(12, "group of the last", desk.group(19), 16);
    }

    private static void sign() {
        CornDesk desk = new CornDesk();
        int n = 0;
        for (int v = -3; v < 300; v++) {
            boolean is = v >= 1 && v <= 4 || v >= 10 && v <= 24;
            due(15, "sign(" + v + ")", desk.sign(v), is ? 1 : BEYOND);
            if (is) {
                n++;
                desk.undo();
            }
        }
        due(15, "how many signs there are", n, 19);
        due(15, "sign(MIN)", desk.sign(Integer.MIN_VALUE), BEYOND);
        for (int i = 1; i <= 12; i++) {
            due(15, "sign", desk.sign(10), i);
        }
        due(15, "a thirteenth sign", desk.sign(10), FULL);
        due(15, "a wrong thirteenth sign", desk.sign(9), BEYOND);
    }

    private static void blank() {
        CornDesk desk = new CornDesk();
        due(16, "blank of nothing", desk.blank(), 0);
        signs(desk, 1, 11, 21);
        due(16, "blank", desk.blank(), 3);
        due(16, "all(3)", desk.all(3), 0);
        due(16, "blank again", desk.blank(), 0);
        due(16, "sign behind", desk.sign(1), 1);
    }

    private static void wrongText() {
        CornDesk desk = new CornDesk();
        int[][] texts = {{}, {1}, {10, 10}, {20}, {1, 20}, {1, 1, 20}, {22}, {1, 22, 22}, {1, 1, 23, 24}, {1, 21}, {24},
            {1, 1, 1, 1, 1, 1}, {1, 1, 1, 1, 1, 1, 1}, {1, 1, 1, 1, 1, 1, 1, 20}, {1, 1, 1, 1, 1, 1, 20, 21, 23, 24, 20},
            {1, 1, 1, 1, 1, 1, 20, 1, 1}, {22, 20}};
        long[] dues = {0, -1, 2, 0, 1, -1, 0, -1, 3, 1, 0, 6, 6, 6, -1, 8, 0};
        for (int i = 0; i < texts.length; i++) {
            signs(desk, texts[i]);
            due(17, "wrong of " + java.util.Arrays.toString(texts[i]), desk.wrong(), dues[i]);
        }
        due(17, "no finding", desk.all(4), 0);
    }

    /** Group 0: two DITCHED with sizes 40 and 30 and three gates; group 1: a MARK. */
    private static CornDesk twoGroups() {
        CornDesk desk = straight(2);
        desk.mark(0, 3, 10, 10, 40, 5);
        desk.mark(1, 3, 10, 10, 30, 6);
        desk.mark(0, 0, 500, 500, 0, 0);
        return desk;
    }

    /** Whether the groups 0 and 1 are of the form that the signs tell; on a new desk, which serves 512 calls alone. */
    private static void form(long first, long second, int... signs) {
        CornDesk desk = twoGroups();
        signs(desk, signs);
        String told = java.util.Arrays.toString(signs);
        due(18, "is(0) by " + told, desk.is(0), first);
        due(18, "is(1) by " + told, desk.is(1), second);
    }

    private static void isOfForm() {
        due(18, "is without groups, ahead of a wrong text", straight(2).is(0), BEYOND);
        CornDesk desk = twoGroups();
        due(18, "is of an empty text", desk.is(0), KIND);
        due(18, "is(-1)", desk.is(-1), BEYOND);
        due(18, "is(2)", desk.is(2), BEYOND);
        form(1, 1, 1);
        form(1, 0, 1, 12, 21);
        form(0, 1, 1, 11, 21);
        form(1, 0, 2);
        form(0, 1, 2, 19, 20);
        form(1, 0, 19, 2, 20);
        form(1, 0, 3, 13, 21);
        form(0, 1, 3, 10, 21);
        form(1, 0, 4, 13, 21);
        form(0, 1, 4, 10, 21);
        for (int digit = 0; digit <= 9; digit++) {
            form(digit > 0 ? 1 : 0, digit > 0 ? 1 : 0, 10 + digit);
            form(digit == 0 ? 1 : 0, digit == 0 ? 1 : 0, 10 + digit, 22);
            form(digit > 4 ? 1 : 0, digit > 4 ? 1 : 0, 14, 10 + digit, 20);
            form(digit == 4 ? 1 : 0, digit == 4 ? 1 : 0, 14, 10 + digit, 21);
            form(digit > 0 ? 1 : 0, digit > 0 ? 1 : 0, 14, 10 + digit, 23);
            form(digit > 0 ? 1 : 0, digit > 0 ? 1 : 0, 10 + digit, 14, 23);
            form(0, 0, 10, 10 + digit, 23);
            form(1, 1, 14, 10 + digit, 24);
            form(digit > 0 ? 1 : 0, digit > 0 ? 1 : 0, 10, 10 + digit, 24);
            form(digit > 0 ? 1 : 0, digit > 0 ? 1 : 0, 10 + digit, 10, 24);
        }
        form(1, 1, 10, 22, 11, 21);
        form(1, 1, 13, 14, 20, 11, 21);
        form(1, 1, 13, 13, 21, 11, 21);
        form(1, 1, 13, 14, 23, 11, 21);
        form(1, 1, 13, 14, 24, 11, 21);
        form(0, 0, 10, 11, 12, 13, 14, 15, 20, 21, 20, 21, 20);
        form(1, 1, 10, 11, 12, 13, 14, 15, 20, 21, 20, 21, 20, 22);
        form(KIND, KIND, 1, 1);
        form(KIND, KIND, 1, 23);
        form(KIND, KIND, 1, 1, 1, 1, 1, 1, 1);
    }

    private static void field() {
        CornDesk desk = new CornDesk();
        for (int soil : OUTSIDE_LEVELS) {
            due(19, "field's soil", desk.field(soil, 50, 1), BEYOND);
        }
        for (int chance : new int[] {0, -1, 100, Integer.MAX_VALUE}) {
            due(19, "field's chance", desk.field(0, chance, 1), BEYOND);
        }
        for (int hours : new int[] {0, -1, 10, Integer.MAX_VALUE}) {
            due(19, "field's hours", desk.field(0, 50, hours), BEYOND);
        }
        for (int f = 0; f < 8; f++) {
            due(19, "field", desk.field(f % 4, f == 0 ? 1 : 99, f == 0 ? 1 : 9), f);
        }
        due(19, "a ninth field", desk.field(0, 50, 1), FULL);
        due(19, "a wrong ninth field", desk.field(0, 0, 1), BEYOND);
        due(19, "all(2)", desk.all(2), 8);
    }

    private static void look() {
        CornDesk desk = new CornDesk();
        due(20, "look without field", desk.look(0, 0, 0, true), BEYOND);
        desk.field(0, 50, 1);
        due(20, "look(-1)", desk.look(-1, 0, 0, true), BEYOND);
        for (int number : OUTSIDE_LEVELS) {
            due(20, "look's crop", desk.look(0, number, 0, true), BEYOND);
            due(20, "look's dryness", desk.look(0, 0, number, true), BEYOND);
        }
        for (int i = 1; i <= 4; i++) {
            due(20, "look", desk.look(0, 3, 3, false), i);
        }
        due(20, "a fifth look", desk.look(0, 0, 0, false), FULL);
        due(20, "a wrong fifth look", desk.look(0, 0, 4, false), BEYOND);
        desk.dig(0, false);
        due(20, "a look at what was dug, ahead of full", desk.look(0, 0, 0, false), KIND);
        due(20, "a wrong look at what was dug", desk.look(0, 4, 0, false), BEYOND);
    }

    private static void belief(CornDesk desk, int field, long above, long below) {
        due(21, "belief above", desk.belief(field, false), above);
        due(21, "belief below", desk.belief(field, true), below);
    }

    private static void beliefs() {
        CornDesk desk = new CornDesk();
        due(21, "belief without field", desk.belief(0, false), BEYOND);
        desk.field(0, 40, 1);
        due(21, "belief(-1)", desk.belief(-1, true), BEYOND);
        belief(desk, 0, 2, 5);
        desk.look(0, 1, 1, false);
        belief(desk, 0, 1, 4);
        desk.look(0, 1, 2, false);
        belief(desk, 0, 1, 7);
        // A dig elsewhere on this soil teaches: (0, 1, 1) is 3 of 4 now, (0, 1, 2) still 1 of 2.
        desk.field(0, 1, 1);
        desk.look(1, 1, 1, true);
        desk.look(1, 1, 1, true);
        belief(desk, 1, 1, 1);
        desk.dig(1, true);
        belief(desk, 0, 1, 13);
        desk.dig(0, false);
        belief(desk, 0, 1, 13);
        desk.undo();
        desk.look(0, 3, 3, true);
        belief(desk, 0, 1, 1);
        desk.look(0, 3, 3, false);
        belief(desk, 0, 1, 1);
    }

    private static void showing() {
        CornDesk desk = new CornDesk();
        for (int number : OUTSIDE_LEVELS) {
            due(22, "showing's soil", desk.showing(number, 0, 0, true), BEYOND);
            due(22, "showing's crop", desk.showing(0, number, 0, true), BEYOND);
            due(22, "showing's dryness", desk.showing(0, 0, number, true), BEYOND);
        }
        desk.field(3, 50, 1);
        desk.look(0, 1, 2, true);
        desk.look(0, 1, 2, false);
        desk.look(0, 1, 2, false);
        desk.look(0, 2, 1, false);
        desk.dig(0, true);
        due(22, "showing, not in lowest terms, above", desk.showing(3, 1, 2, false), 2);
        due(22, "showing below", desk.showing(3, 1, 2, true), 5);
        due(22, "showing above", desk.showing(3, 2, 1, false), 1);
        due(22, "showing below", desk.showing(3, 2, 1, true), 3);
        desk.field(3, 50, 1);
        desk.look(1, 2, 1, true);
        desk.dig(1, true);
        due(22, "showing 2 of 4 above", desk.showing(3, 2, 1, false), 2);
        due(22, "showing 2 of 4 below", desk.showing(3, 2, 1, true), 4);
        due(22, "showing of another soil", desk.showing(2, 2, 1, true), 2);
        due(22, "showing of another crop", desk.showing(3, 1, 1, true), 2);
        due(22, "showing of another dryness", desk.showing(3, 2, 2, true), 2);
    }

    private static void dig() {
        CornDesk desk = new CornDesk();
        due(23, "dig without field", desk.dig(0, true), BEYOND);
        desk.field(0, 50, 1);
        due(23, "dig(-1)", desk.dig(-1, true), BEYOND);
        due(23, "dig without looks", desk.dig(0, true), 0);
        due(23, "dig again", desk.dig(0, false), KIND);
        desk.field(1, 50, 1);
        desk.look(1, 0, 0, false);
        desk.look(1, 1, 0, true);
        due(23, "dig that found nothing", desk.dig(1, false), 0);
        due(23, "showing after it", desk.showing(1, 0, 0, true), 2);
        due(23, "dig again", desk.dig(1, true), KIND);
        due(23, "showing after that", desk.showing(1, 1, 0, true), 2);
        due(23, "undo", desk.undo(), 5);
        due(23, "dig that found something", desk.dig(1, true), 2);
        due(23, "showing of the unseen", desk.showing(1, 0, 0, false), 1);
        due(23, "showing of the unseen below", desk.showing(1, 0, 0, true), 3);
        due(23, "showing of the seen", desk.showing(1, 1, 0, false), 2);
        due(23, "showing of the seen below", desk.showing(1, 1, 0, true), 3);
    }

    private static void plan(CornDesk desk, int hours, long set, long gain) {
        due(24, "plan(" + hours + ")", desk.plan(hours, 0, 0), set);
        due(25, "brings(" + hours + ")", desk.brings(hours, 0, 0), gain);
    }

    private static void plans() {
        CornDesk desk = new CornDesk();
        int[] beyondHours = {-1, 100, Integer.MIN_VALUE, Integer.MAX_VALUE};
        for (int hours : beyondHours) {
            due(24, "plan's hours", desk.plan(hours, 0, 0), BEYOND);
            due(25, "brings' hours", desk.brings(hours, 0, 0), BEYOND);
        }
        for (int number : OUTSIDE_LEVELS) {
            due(24, "plan's crop", desk.plan(0, number, 0), BEYOND);
            due(24, "plan's dryness", desk.plan(0, 0, number), BEYOND);
            due(25, "brings' crop", desk.brings(0, number, 0), BEYOND);
            due(25, "brings' dryness", desk.brings(0, 0, number), BEYOND);
        }
        plan(desk, 99, 0, 0);
        desk.field(0, 30, 4);
        desk.field(0, 20, 2);
        desk.field(0, 10, 1);
        desk.field(0, 30, 3);
        plan(desk, 0, 0, 0);
        plan(desk, 1, 4, 500);
        plan(desk, 2, 2, 1000);
        plan(desk, 3, 6, 1500);
        plan(desk, 4, 12, 2000);
        plan(desk, 6, 14, 3000);
        plan(desk, 10, 15, 4500);
        plan(desk, 99, 15, 4500);
        desk.field(0, 10, 1);
        plan(desk, 1, 4, 500);
        plan(desk, 4, 12, 2000);
        desk.look(3, 2, 2, false);
        plan(desk, 4, 12, 2000);
        desk.look(3, 2, 2, true);
        plan(desk, 4, 22, 2000);
        desk.dig(2, false);
        plan(desk, 3, 18, 1500);
        desk.dig(4, true);
        plan(desk, 99, 3, 2500);
        // One look of a dig on soil 0 with crop 0, dryness 0: SHOWING is 1 of 3; each field is cut alone.
        desk.field(0, 50, 1);
        desk.look(5, 0, 0, false);
        desk.dig(5, true);
        desk.field(0, 1, 1);
        desk.field(0, 1, 1);
        plan(desk, 99, 3 + 64 + 128, 1000 + 666 + 33 + 33);
        plan(desk, 1, 64, 33);
        due(24, "plan for another crop", desk.plan(99, 1, 0), 3 + 64 + 128);
        due(25, "brings for another crop", desk.brings(99, 1, 0), 2600);
        due(25, "brings for another dryness", desk.brings(99, 0, 1), 2600);
        CornDesk even = new CornDesk();
        even.field(0, 30, 3);
        even.field(0, 30, 2);
        even.field(0, 30, 2);
        plan(even, 3, 2, 1500);
        plan(even, 4, 6, 3000);
        plan(even, 5, 6, 3000);
    }

    private static void sheet() {
        CornDesk desk = new CornDesk();
        due(26, "sheet(-1)", desk.sheet(-1, 8, 1), BEYOND);
        due(26, "sheet(4)", desk.sheet(4, 8, 1), BEYOND);
        for (int bits : new int[] {-8, -1, 1, 7, 9, 12, 24, 31, 33, 64, Integer.MAX_VALUE}) {
            due(26, "sheet of " + bits + " bits", desk.sheet(0, bits, 1), BEYOND);
            due(26, "sheet of " + bits + " bits, ahead of size", desk.sheet(0, bits, -1), BEYOND);
        }
        for (int bits : new int[] {0, 8, 16, 32}) {
            due(26, "sheet below 0", desk.sheet(0, bits, -1), SIZE);
            due(26, "sheet far below 0", desk.sheet(0, bits, Integer.MIN_VALUE), SIZE);
            due(26, "sheet above 16", desk.sheet(0, bits, 17), BEYOND);
            due(26, "sheet of 16", desk.sheet(0, bits, 16), bits == 0 ? 0 : 16);
            due(26, "sheet of 0", desk.sheet(0, bits, 0), 0);
        }
        due(26, "an empty sheet is there", desk.put(0, 0, 0), BEYOND);
        desk.sheet(1, 8, 2);
        desk.put(1, 0, 1);
        due(26, "a refused sheet changes nothing", desk.sheet(1, 8, 17), BEYOND);
        due(26, "put after it", desk.put(1, 1, 22), 0);
        due(26, "text after it", desk.text(1), 2);
        due(26, "sheet anew", desk.sheet(1, 8, 2), 2);
        due(26, "all 0 anew, which is no sign", desk.text(1), BEYOND);
        due(26, "sheet missing", desk.sheet(1, 0, 0), 0);
        due(26, "text of it", desk.text(1), MISSING);
        due(26, "no act for undo but text", desk.undo(), 0);
    }

    private static void put() {
        CornDesk desk = new CornDesk();
        due(27, "put(-1)", desk.put(-1, 0, 0), BEYOND);
        due(27, "put(4)", desk.put(4, 0, 0), BEYOND);
        due(27, "put on a missing one", desk.put(3, -1, 0), MISSING);
        int[] bits = {8, 16, 32};
        for (int s = 0; s < 3; s++) {
            desk.sheet(s, bits[s], 1);
            due(27, "put at -1", desk.put(s, -1, 0), BEYOND);
            due(27, "put at 1", desk.put(s, 1, 0), BEYOND);
            due(27, "put 1 and 256", desk.put(s, 0, 1 + 256), 0);
            due(27, "text", desk.text(s), s == 0 ? 1 : BEYOND);
            due(27, "put 1 and 65536", desk.put(s, 0, 1 - 65536), 0);
            due(27, "text", desk.text(s), s <= 1 ? 1 : BEYOND);
            due(27, "put 24", desk.put(s, 0, 24), 0);
            due(27, "text", desk.text(s), 1);
            due(27, "put -1", desk.put(s, 0, -1), 0);
            due(27, "text", desk.text(s), BEYOND);
        }
    }

    private static void copy() {
        CornDesk desk = new CornDesk();
        due(28, "copy(-1)", desk.copy(-1, 0, 0, 0, 0), BEYOND);
        due(28, "copy to 4, ahead of missing", desk.copy(0, 0, 4, 0, 0), BEYOND);
        due(28, "copy of a missing one", desk.copy(0, 0, 0, 0, 0), MISSING);
        desk.sheet(0, 8, 3);
        due(28, "copy to a missing one", desk.copy(0, 0, 1, 0, -1), MISSING);
        due(28, "copy from a missing one", desk.copy(1, 0, 0, 0, -1), MISSING);
        desk.sheet(1, 16, 3);
        due(28, "copy of other bits", desk.copy(0, 0, 1, 0, -1), KIND);
        desk.sheet(1, 8, 4);
        int huge = Integer.MAX_VALUE;
        int[][] wrongRuns = {{-1, 0, 1}, {0, -1, 1}, {0, 0, -1}, {0, 0, 4}, {1, 0, 3}, {0, 2, 3}, {4, 0, 0}, {0, 5, 0},
            {huge, 0, 1}, {0, huge, 1}, {1, 1, huge}, {huge, huge, huge}, {0, 0, Integer.MIN_VALUE}};
        for (int[] run : wrongRuns) {
            due(28, "copy " + java.util.Arrays.toString(run), desk.copy(0, run[0], 1, run[1], run[2]), BEYOND);
        }
        due(28, "copy of nothing at the ends", desk.copy(0, 3, 1, 4, 0), 0);
        // 1, 11, 21 becomes 1, 1, 11 if all go at once.
        desk.put(0, 0, 1);
        desk.put(0, 1, 11);
        desk.put(0, 2, 21);
        due(28, "copy over itself upwards", desk.copy(0, 0, 0, 1, 2), 2);
        due(28, "text", desk.text(0), 3);
        due(28, "wrong", desk.wrong(), 3);
        desk.put(0, 2, 21);
        desk.text(0);
        due(28, "wrong of 1, 1, 21", desk.wrong(), -1);
        due(28, "copy to another one", desk.copy(0, 1, 1, 2, 2), 2);
        due(28, "text with 0, no sign", desk.text(1), BEYOND);
        due(28, "copy to its start", desk.copy(0, 0, 1, 0, 2), 2);
        due(28, "text", desk.text(1), 4);
        due(28, "wrong of 1, 1, 1, 21", desk.wrong(), 4);
        due(28, "copy over itself downwards", desk.copy(1, 1, 1, 0, 3), 3);
        due(28, "text", desk.text(1), 4);
        due(28, "wrong of 1, 1, 21, 21", desk.wrong(), 3);
    }

    private static void text() {
        CornDesk desk = new CornDesk();
        due(29, "text(-1)", desk.text(-1), BEYOND);
        due(29, "text(4)", desk.text(4), BEYOND);
        due(29, "text of a missing one", desk.text(0), MISSING);
        desk.sheet(0, 8, 13);
        due(29, "text of 13, ahead of no signs", desk.text(0), SIZE);
        desk.sheet(0, 8, 12);
        due(29, "text of zeros", desk.text(0), BEYOND);
        for (int i = 0; i < 12; i++) {
            desk.put(0, i, 10);
        }
        desk.sign(1);
        due(29, "text of 12", desk.text(0), 12);
        due(29, "all(3)", desk.all(3), 12);
        desk.put(0, 11, 9);
        due(29, "text with one that is no sign", desk.text(0), BEYOND);
        due(29, "all(3) as it was", desk.all(3), 12);
        desk.undo();
        due(29, "all(3) after undo", desk.all(3), 1);
        due(29, "wrong after undo", desk.wrong(), -1);
        desk.sheet(1, 32, 0);
        due(29, "text of nothing", desk.text(1), 0);
        due(29, "all(3)", desk.all(3), 0);
    }

    private static void undoPictures() {
        CornDesk desk = new CornDesk();
        desk.picture();
        desk.place(0, 0, 0, 0, 0);
        desk.place(0, 10, 20, 30, 40);
        desk.unplace(0);
        desk.place(0, 10, 10, 50, 60);
        due(30, "undo place", desk.undo(), 4);
        due(30, "led", desk.led(0, false, 10, false), NONE);
        due(30, "undo unplace", desk.undo(), 3);
        due(30, "led along u", desk.led(0, false, 10, false), 30);
        due(30, "led along v", desk.led(0, true, 20, false), 40);
        desk.mark(0, 0, 10, 20, 0, 0);
        due(30, "undo mark", desk.undo(), 3);
        due(30, "all(1)", desk.all(1), 0);
        due(30, "at", desk.at(0, false), BEYOND);
        due(30, "undo place", desk.undo(), 2);
        due(30, "undo place", desk.undo(), 1);
        due(30, "undo picture", desk.undo(), 0);
        due(30, "all(0)", desk.all(0), 0);
        due(30, "undo of nothing", desk.undo(), NONE);
        desk.picture();
        due(30, "a picture again has no places", desk.unplace(0), NONE);
    }

    private static void undoText() {
        CornDesk desk = straight(1);
        desk.mark(0, 0, 0, 0, 0, 0);
        signs(desk, 1, 11, 21);
        desk.blank();
        desk.sign(10);
        desk.blank();
        due(30, "undo blank", desk.undo(), 10);
        due(30, "is", desk.is(0), 0);
        desk.undo();
        due(30, "undo the first blank", desk.undo(), 8);
        due(30, "all(3)", desk.all(3), 3);
        due(30, "is", desk.is(0), 1);
        desk.sheet(0, 8, 1);
        desk.put(0, 0, 10);
        desk.text(0);
        due(30, "is", desk.is(0), 0);
        desk.undo();
        due(30, "is after undo of text", desk.is(0), 1);
        due(30, "sheets stay", desk.text(0), 1);
    }

    private static void undoFields() {
        CornDesk desk = new CornDesk();
        desk.field(2, 50, 3);
        desk.look(0, 1, 3, true);
        desk.look(0, 1, 3, false);
        desk.dig(0, true);
        due(30, "showing", desk.showing(2, 1, 3, true), 4);
        due(30, "undo dig", desk.undo(), 3);
        due(30, "showing above after undo", desk.showing(2, 1, 3, false), 1);
        due(30, "showing below after undo", desk.showing(2, 1, 3, true), 2);
        due(30, "look after undo", desk.look(0, 0, 0, false), 3);
        desk.undo();
        desk.undo();
        due(30, "undo look", desk.undo(), 1);
        due(30, "belief after undo", desk.belief(0, true), 2);
        due(30, "plan after undo", desk.plan(9, 0, 0), 1);
        due(30, "undo field", desk.undo(), 0);
        due(30, "all(2)", desk.all(2), 0);
        due(30, "belief", desk.belief(0, false), BEYOND);
        desk.field(1, 10, 1);
        due(30, "a field again has no looks", desk.look(0, 0, 0, false), 1);
    }

    private static void undoKeepsTwenty() {
        CornDesk desk = new CornDesk();
        desk.picture();
        for (int i = 0; i < 19; i++) {
            desk.blank();
        }
        due(30, "undo of 20", desk.undo(), 19);
        desk.blank();
        desk.blank();
        desk.sign(99);
        desk.wrong();
        desk.sheet(0, 8, 1);
        for (int left = 19; left >= 0; left--) {
            due(30, "undo", desk.undo(), left);
        }
        due(30, "undo beyond 20", desk.undo(), NONE);
        due(30, "the twenty-first act stays", desk.all(0), 1);
    }

    private static void all() {
        CornDesk desk = straight(2);
        desk.mark(0, 0, 0, 0, 0, 0);
        desk.field(0, 1, 1);
        desk.field(0, 1, 1);
        desk.field(0, 1, 1);
        signs(desk, 1, 1, 1, 1);
        long[] dues = {2, 1, 3, 4, 0};
        for (int what = 0; what < 5; what++) {
            due(31, "all(" + what + ")", desk.all(what), dues[what]);
        }
        for (int what : new int[] {-1, 5, Integer.MIN_VALUE, Integer.MAX_VALUE}) {
            due(31, "all(" + what + ")", desk.all(what), BEYOND);
        }
        due(31, "all(4)", desk.all(4), 4);
        desk.undo();
        due(31, "all(4) is not undone", desk.all(4), 4);
    }

    /** One call for each act that has a finding: all of them are counted. */
    private static void everyFindingCounts() {
        CornDesk desk = new CornDesk();
        long[] findings = {desk.place(0, 0, 0, 0, 0), desk.unplace(0), desk.led(0, false, 0, false),
            desk.miss(0, false, false), desk.doubt(0), desk.mark(0, 0, 0, 0, 0, 0), desk.as(0, 0), desk.at(0, false),
            desk.agree(0, 0), desk.group(0), desk.rivals(0), desk.sign(0), desk.is(0), desk.field(0, 0, 0),
            desk.look(0, 0, 0, false), desk.belief(0, false), desk.showing(4, 0, 0, false), desk.dig(0, false),
            desk.plan(-1, 0, 0), desk.brings(-1, 0, 0), desk.sheet(4, 0, 0), desk.put(4, 0, 0), desk.copy(4, 0, 0, 0, 0),
            desk.text(4), desk.all(5)};
        for (int i = 0; i < findings.length; i++) {
            due(31, "finding " + i, findings[i], BEYOND);
        }
        due(31, "undo", desk.undo(), NONE);
        due(31, "all(4)", desk.all(4), findings.length + 1);
        for (int p = 0; p < 7; p++) {
            desk.picture();
        }
        due(31, "all(4) after a full desk", desk.all(4), findings.length + 2);
        long before = desk.all(4);
        desk.unplace(0);
        desk.led(0, false, 0, false);
        desk.miss(0, false, false);
        desk.doubt(0);
        desk.mark(0, 0, 0, 0, 0, 0);
        desk.at(0, false);
        desk.as(0, 1);
        desk.is(0);
        due(31, "all(4) after NONE and KIND", desk.all(4), before + 7);
    }

    /** FINDINGS are told as all answers below -999999999, so a fraction's upper part down there is counted, too. */
    private static void farBelow() {
        CornDesk desk = new CornDesk();
        desk.picture();
        for (int i = 0; i < 4; i++) {
            desk.place(0, i, i, 999, i);
            desk.place(0, 98 + i, 98 + i, 0, i);
        }
        desk.unplace(0);
        desk.place(0, 100, 100, 1, 3);
        long above = desk.led(0, false, 999, false);
        due(5, "led far below (" + above + ")", above < -999999999L ? 1 : 0, 1);
        due(31, "all(4) after it", desk.all(4), 1);
    }

    public static void main(String[] args) {
        newObject();
        picture();
        place();
        unplace();
        led();
        miss();
        doubt();
        mark();
        as();
        at();
        agree();
        groupsAndRivals();
        sign();
        blank();
        wrongText();
        isOfForm();
        field();
        look();
        beliefs();
        showing();
        dig();
        plans();
        sheet();
        put();
        copy();
        text();
        undoPictures();
        undoText();
        undoFields();
        undoKeepsTwenty();
        all();
        everyFindingCounts();
        farBelow();
        System.out.println(wrong == 0 ? "all promises hold" : wrong + " answers are not as due");
        if (wrong != 0) {
            System.exit(1);
        }
    }
}
