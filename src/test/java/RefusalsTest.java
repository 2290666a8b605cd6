import java.util.ArrayList;
import java.util.List;
import java.util.function.Consumer;
import java.util.function.ToLongFunction;

/**
 * "Each act tells its findings in the order in which they are asked; an act that answers a finding changes nothing."
 * Each refused call is made on one of two desks that are alike; then all that can be asked of both must be alike, but
 * for the findings, of which the one has had one more. Where two findings apply, the one that is asked first is due.
 */
public final class RefusalsTest {
    private static final long LOW = -1000000000L;
    private static final long BEYOND = LOW - 1;
    private static final long MISSING = LOW - 2;
    private static final long SIZE = LOW - 3;
    private static final long KIND = LOW - 4;
    private static final long FULL = LOW - 5;
    private static final long NONE = LOW - 6;
    private static final int MIN = Integer.MIN_VALUE;
    private static final int MAX = Integer.MAX_VALUE;

    private static int wrong;
    private static int refusals;

    /** What a desk tells to many questions; each view has a desk of its own, so that it may change it. */
    private interface View {
        List<Long> of(CornDesk desk);
    }

    private static final View[] VIEWS = {
        RefusalsTest::pictures, RefusalsTest::marks, RefusalsTest::fields, RefusalsTest::showings, RefusalsTest::plans,
        RefusalsTest::lengths, RefusalsTest::contents, RefusalsTest::past, RefusalsTest::room};

    private static List<Long> pictures(CornDesk desk) {
        List<Long> told = new ArrayList<>();
        for (int what = 0; what < 4; what++) {
            told.add(desk.all(what));
        }
        for (int p = 0; p < 6; p++) {
            for (int way = 0; way < 4; way++) {
                told.add(desk.led(p, way % 2 == 1, 3, way > 1));
                told.add(desk.led(p, way % 2 == 1, 998, way > 1));
                told.add(desk.miss(p, way % 2 == 1, way > 1));
            }
            told.add(desk.doubt(p));
            for (int i = 0; i < 9; i++) {
                told.add(desk.unplace(p));
            }
        }
        return told;
    }

    private static List<Long> marks(CornDesk desk) {
        List<Long> told = new ArrayList<>();
        told.add(desk.wrong());
        told.add(desk.groups());
        for (int m = 0; m < 20; m++) {
            for (int kind = 0; kind < 4; kind++) {
                told.add(desk.as(m, kind));
            }
            told.add(desk.at(m, false));
            told.add(desk.at(m, true));
            told.add(desk.group(m));
            told.add(desk.agree(m, 0));
            told.add(desk.rivals(m));
            told.add(desk.is(m));
        }
        int[][] texts = {{1, 12, 21}, {2, 15, 21}, {3, 13, 21}};
        for (int[] text : texts) {
            desk.blank();
            for (int sign : text) {
                desk.sign(sign);
            }
            for (int g = 0; g < 20; g++) {
                told.add(desk.is(g));
            }
        }
        return told;
    }

    private static List<Long> fields(CornDesk desk) {
        List<Long> told = new ArrayList<>();
        for (int f = 0; f < 8; f++) {
            told.add(desk.belief(f, false));
            told.add(desk.belief(f, true));
        }
        for (int f = 0; f < 8; f++) {
            told.add(desk.dig(f, true));
            told.add(desk.plan(99, 0, 0));
        }
        for (int cell = 0; cell < 64; cell++) {
            told.add(desk.showing(cell / 16, cell / 4 % 4, cell % 4, false));
            told.add(desk.showing(cell / 16, cell / 4 % 4, cell % 4, true));
        }
        return told;
    }

    private static List<Long> showings(CornDesk desk) {
        List<Long> told = new ArrayList<>();
        for (int cell = 0; cell < 64; cell++) {
            told.add(desk.showing(cell / 16, cell / 4 % 4, cell % 4, false));
            told.add(desk.showing(cell / 16, cell / 4 % 4, cell % 4, true));
        }
        for (int f = 0; f < 8; f++) {
            for (int i = 0; i < 5; i++) {
                told.add(desk.look(f, 0, 0, false));
            }
        }
        return told;
    }

    private static List<Long> plans(CornDesk desk) {
        List<Long> told = new ArrayList<>();
        for (int hours = 0; hours <= 72; hours++) {
            told.add(desk.plan(hours, 1, 1));
            told.add(desk.brings(hours, 1, 1));
        }
        for (int cell = 0; cell < 16; cell++) {
            told.add(desk.plan(20, cell / 4, cell % 4));
            told.add(desk.brings(20, cell / 4, cell % 4));
        }
        return told;
    }

    private static List<Long> lengths(CornDesk desk) {
        List<Long> told = new ArrayList<>();
        for (int s = 0; s < 4; s++) {
            for (int i = 0; i < 17; i++) {
                told.add(desk.put(s, i, 10));
            }
            for (int t = 0; t < 4; t++) {
                told.add(desk.copy(s, 0, t, 0, 0));
            }
            told.add(desk.text(s));
        }
        return told;
    }

    /** Each number of each sheet is brought alone to sheets of each width, and told by text, where it is a sign. */
    private static List<Long> contents(CornDesk desk) {
        List<Long> told = new ArrayList<>();
        for (int s = 0; s < 4; s++) {
            told.add(desk.text(s));
            told.add(desk.wrong());
            told.add(desk.is(0));
        }
        int probe = 2;
        for (int s = 0; s < 4; s++) {
            for (int bits = 8; bits <= 32 && s != probe; bits *= 2) {
                told.add(desk.sheet(probe, bits, 1));
                for (int i = 0; i < 16; i++) {
                    long copied = desk.copy(s, i, probe, 0, 1);
                    told.add(copied);
                    if (copied < 0) {
                        break;
                    }
                    told.add(desk.text(probe));
                    told.add(desk.wrong());
                    told.add(desk.is(0));
                }
            }
        }
        return told;
    }

    private static List<Long> past(CornDesk desk) {
        List<Long> told = new ArrayList<>();
        for (int i = 0; i < 21; i++) {
            told.add(desk.undo());
            for (int what = 0; what < 4; what++) {
                told.add(desk.all(what));
            }
            told.add(desk.wrong());
            told.add(desk.groups());
            told.add(desk.doubt(0));
            told.add(desk.belief(0, true));
            told.add(desk.plan(50, 0, 0));
            told.add(desk.showing(0, 0, 0, true));
        }
        return told;
    }

    private static List<Long> room(CornDesk desk) {
        List<Long> told = new ArrayList<>();
        for (int i = 0; i < 7; i++) {
            told.add(desk.picture());
        }
        for (int i = 0; i < 21; i++) {
            told.add(desk.mark(0, 0, i, i, 0, 0));
        }
        for (int i = 0; i < 13; i++) {
            told.add(desk.sign(11));
        }
        for (int i = 0; i < 9; i++) {
            told.add(desk.field(0, 50, 5));
        }
        return told;
    }

    // ---- the desks

    private static void bare(CornDesk desk) {
        desk.all(0);
    }

    /** Something of everything, nothing full; picture 1 has one way alone, picture 2 no places. */
    private static void busy(CornDesk desk) {
        desk.picture();
        desk.picture();
        desk.picture();
        desk.place(0, 0, 0, 10, 0);
        desk.place(0, 10, 10, 30, 30);
        desk.place(0, 20, 20, 53, 60);
        desk.place(1, 5, 7, 10, 0);
        desk.place(1, 15, 7, 30, 30);
        desk.mark(0, 1, 10, 10, 5, 7);
        desk.mark(0, 2, 10, 10, 0, 0);
        desk.mark(1, 0, 10, 10, 0, 0);
        desk.sign(1);
        desk.sign(13);
        desk.field(0, 50, 3);
        desk.field(1, 90, 5);
        desk.look(0, 0, 0, false);
        desk.look(1, 1, 1, true);
        desk.dig(1, true);
        desk.sheet(0, 8, 3);
        desk.put(0, 0, 4);
        desk.put(0, 1, 11);
        desk.put(0, 2, 21);
        desk.sheet(1, 16, 2);
        desk.put(1, 0, 1);
        desk.put(1, 1, 99);
    }

    /** All is full: field 1 was dug, field 2 was dug and has 4 looks; sheet 1 has 13 numbers, sheet 2 is missing. */
    private static void full(CornDesk desk) {
        for (int p = 0; p < 6; p++) {
            desk.picture();
        }
        for (int i = 0; i < 8; i++) {
            desk.place(0, 10 * i, 12 * i, 30 * i, i % 3);
            desk.place(1, 10 * i, 12 * i, 30 * i, i % 4);
            desk.place(2, 5, 5, i, i);
        }
        for (int m = 0; m < 20; m++) {
            desk.mark(m % 3, 3, m, m / 2, 1 + m % 5, m % 16);
        }
        for (int i = 0; i < 12; i++) {
            desk.sign(i < 7 ? 10 + i : 20);
        }
        for (int f = 0; f < 8; f++) {
            desk.field(f % 4, 10 * f + 5, 1 + f);
        }
        for (int i = 0; i < 4; i++) {
            desk.look(0, 0, 0, false);
            desk.look(2, i, i, i == 1);
        }
        desk.dig(1, false);
        desk.dig(2, true);
        desk.sheet(0, 8, 12);
        desk.sheet(1, 16, 13);
        desk.sheet(3, 16, 2);
        for (int i = 0; i < 12; i++) {
            desk.put(0, i, i < 6 ? 10 + i : 24);
            desk.put(1, i, i);
        }
        desk.put(3, 0, 22);
        desk.put(3, 1, 4);
    }

    /** One act on a desk of its own that was made ready, and perhaps refused a call before it. */
    private static List<Long> seen(View view, Consumer<CornDesk> ready, ToLongFunction<CornDesk> call) {
        CornDesk desk = new CornDesk();
        ready.accept(desk);
        if (call != null) {
            call.applyAsLong(desk);
        }
        return view.of(desk);
    }

    private static void refused(String what, Consumer<CornDesk> ready, long finding, ToLongFunction<CornDesk> call) {
        refusals++;
        CornDesk desk = new CornDesk();
        ready.accept(desk);
        long before = desk.all(4);
        long got = call.applyAsLong(desk);
        if (got != finding) {
            wrong++;
            System.out.println(what + " answered " + got + ", due is " + finding);
        }
        if (desk.all(4) != before + 1) {
            wrong++;
            System.out.println(what + ": it counted as " + (desk.all(4) - before) + " findings, due is 1");
        }
        for (int i = 0; i < VIEWS.length; i++) {
            if (!seen(VIEWS[i], ready, call).equals(seen(VIEWS[i], ready, null))) {
                wrong++;
                System.out.println(what + ": the refused call changed what view " + i + " tells");
            }
        }
    }

    // ---- the refused calls

    private static void ofPictures() {
        refused("picture, full", RefusalsTest::full, FULL, d -> d.picture());
        for (int p : new int[] {-1, 3, 6, MIN, MAX}) {
            refused("place, picture " + p, RefusalsTest::busy, BEYOND, d -> d.place(p, 1, 2, 3, 4));
            refused("unplace, picture " + p, RefusalsTest::busy, BEYOND, d -> d.unplace(p));
            refused("led, picture " + p, RefusalsTest::busy, BEYOND, d -> d.led(p, false, 5, false));
            refused("led, picture and at", RefusalsTest::busy, BEYOND, d -> d.led(p, true, 1000, true));
            refused("miss, picture " + p, RefusalsTest::busy, BEYOND, d -> d.miss(p, true, false));
            refused("doubt, picture " + p, RefusalsTest::busy, BEYOND, d -> d.doubt(p));
        }
        refused("place on no picture", RefusalsTest::bare, BEYOND, d -> d.place(0, 1, 2, 3, 4));
        for (int n : new int[] {-1, 1000}) {
            refused("place, u", RefusalsTest::busy, BEYOND, d -> d.place(0, n, 2, 3, 4));
            refused("place, v", RefusalsTest::busy, BEYOND, d -> d.place(0, 1, n, 3, 4));
            refused("place, x", RefusalsTest::busy, BEYOND, d -> d.place(0, 1, 2, n, 4));
            refused("place, y", RefusalsTest::busy, BEYOND, d -> d.place(0, 1, 2, 3, n));
            refused("place, u ahead of full", RefusalsTest::full, BEYOND, d -> d.place(0, n, 2, 3, 4));
            refused("place, v ahead of full", RefusalsTest::full, BEYOND, d -> d.place(0, 1, n, 3, 4));
            refused("place, x ahead of full", RefusalsTest::full, BEYOND, d -> d.place(0, 1, 2, n, 4));
            refused("place, y ahead of full", RefusalsTest::full, BEYOND, d -> d.place(0, 1, 2, 3, n));
            refused("led, at ahead of none", RefusalsTest::busy, BEYOND, d -> d.led(2, false, n, false));
            refused("led, at ahead of none along v", RefusalsTest::busy, BEYOND, d -> d.led(1, true, n, true));
            refused("led, at", RefusalsTest::busy, BEYOND, d -> d.led(0, true, n, true));
        }
        refused("place, full", RefusalsTest::full, FULL, d -> d.place(0, 1, 2, 3, 4));
        refused("place, full with places alike", RefusalsTest::full, FULL, d -> d.place(2, 6, 6, 3, 4));
        refused("unplace, none", RefusalsTest::busy, NONE, d -> d.unplace(2));
        refused("led, none along v", RefusalsTest::busy, NONE, d -> d.led(1, true, 0, false));
        refused("led, none below", RefusalsTest::busy, NONE, d -> d.led(2, false, 0, true));
        refused("led, none of 8 alike", RefusalsTest::full, NONE, d -> d.led(2, false, 0, true));
        refused("miss, none along v", RefusalsTest::busy, NONE, d -> d.miss(1, true, true));
        refused("miss, none", RefusalsTest::busy, NONE, d -> d.miss(2, false, false));
        refused("doubt, one way none", RefusalsTest::busy, NONE, d -> d.doubt(1));
        refused("doubt, none", RefusalsTest::busy, NONE, d -> d.doubt(2));
    }

    private static void ofMarks() {
        Consumer<CornDesk> busy = RefusalsTest::busy;
        Consumer<CornDesk> full = RefusalsTest::full;
        for (Consumer<CornDesk> desk : List.of(busy, full)) {
            refused("mark, picture -1", desk, BEYOND, d -> d.mark(-1, 0, 5, 5, 0, 0));
            refused("mark, picture 6", desk, BEYOND, d -> d.mark(6, 0, 5, 5, 0, 0));
            refused("mark, kind -1", desk, BEYOND, d -> d.mark(0, -1, 5, 5, 0, 0));
            refused("mark, kind 4", desk, BEYOND, d -> d.mark(0, 4, 5, 5, 1, 1));
            refused("mark, u -1", desk, BEYOND, d -> d.mark(0, 0, -1, 5, 0, 0));
            refused("mark, u 1000", desk, BEYOND, d -> d.mark(0, 0, 1000, 5, 0, 0));
            refused("mark, v -1", desk, BEYOND, d -> d.mark(0, 1, 5, -1, 1, 0));
            refused("mark, v 1000", desk, BEYOND, d -> d.mark(0, 1, 5, 1000, 1, 0));
            refused("mark, size 0", desk, BEYOND, d -> d.mark(0, 3, 5, 5, 0, 0));
            refused("mark, size 100", desk, BEYOND, d -> d.mark(0, 3, 5, 5, 100, 0));
            refused("mark, size 1 of a line", desk, BEYOND, d -> d.mark(0, 2, 5, 5, 1, 0));
            refused("mark, gates 16", desk, BEYOND, d -> d.mark(0, 1, 5, 5, 1, 16));
            refused("mark, gates -1", desk, BEYOND, d -> d.mark(0, 1, 5, 5, 1, -1));
            refused("mark, gates 1 of a line", desk, BEYOND, d -> d.mark(0, 2, 5, 5, 0, 1));
            refused("at, mark 20", desk, BEYOND, d -> d.at(20, false));
            refused("agree, mark -1", desk, BEYOND, d -> d.agree(-1, 0));
            refused("agree, other 20", desk, BEYOND, d -> d.agree(0, 20));
            refused("group, mark 20", desk, BEYOND, d -> d.group(20));
            refused("rivals, group -1", desk, BEYOND, d -> d.rivals(-1));
            refused("rivals, group 20", desk, BEYOND, d -> d.rivals(20));
            refused("as, mark 20", desk, BEYOND, d -> d.as(20, 3));
            refused("as, kind 4 ahead of KIND", desk, BEYOND, d -> d.as(0, 4));
            refused("as, kind -1 ahead of KIND", desk, BEYOND, d -> d.as(0, -1));
            refused("as, not a line", desk, KIND, d -> d.as(0, 2));
        }
        refused("mark, full", full, FULL, d -> d.mark(0, 1, 5, 5, 1, 0));
        refused("as, a mark is no ring", busy, KIND, d -> d.as(2, 1));
        refused("as, a ring is not ditched", busy, KIND, d -> d.as(0, 3));
        refused("at, that way is none", busy, NONE, d -> d.at(2, true));
        refused("at, none of 8 alike", full, NONE, d -> d.at(2, false));
    }

    private static void ofForms() {
        Consumer<CornDesk> busy = RefusalsTest::busy;
        Consumer<CornDesk> full = RefusalsTest::full;
        for (int v : new int[] {-1, 0, 5, 9, 25, 256 + 1, MIN, MAX}) {
            refused("sign " + v, busy, BEYOND, d -> d.sign(v));
            refused("sign " + v + " ahead of full", full, BEYOND, d -> d.sign(v));
        }
        refused("sign, full", full, FULL, d -> d.sign(1));
        refused("sign, full", full, FULL, d -> d.sign(24));
        refused("is, a text with two at its end", busy, KIND, d -> d.is(0));
        refused("is, a text with too much in the row", full, KIND, d -> d.is(0));
        refused("is, group -1 ahead of KIND", busy, BEYOND, d -> d.is(-1));
        refused("is, group 3 ahead of KIND", busy, BEYOND, d -> d.is(3));
        refused("is, group 20 ahead of KIND", full, BEYOND, d -> d.is(20));
        refused("is, no group and no text", RefusalsTest::bare, BEYOND, d -> d.is(0));
    }

    private static void ofFields() {
        Consumer<CornDesk> busy = RefusalsTest::busy;
        Consumer<CornDesk> full = RefusalsTest::full;
        for (Consumer<CornDesk> desk : List.of(busy, full)) {
            refused("field, soil -1", desk, BEYOND, d -> d.field(-1, 50, 5));
            refused("field, soil 4", desk, BEYOND, d -> d.field(4, 50, 5));
            refused("field, chance 0", desk, BEYOND, d -> d.field(0, 0, 5));
            refused("field, chance 100", desk, BEYOND, d -> d.field(0, 100, 5));
            refused("field, hours 0", desk, BEYOND, d -> d.field(0, 50, 0));
            refused("field, hours 10", desk, BEYOND, d -> d.field(0, 50, 10));
            refused("look, field -1", desk, BEYOND, d -> d.look(-1, 0, 0, true));
            refused("look, field 8", desk, BEYOND, d -> d.look(8, 0, 0, true));
            refused("belief, field 8", desk, BEYOND, d -> d.belief(8, true));
            refused("dig, field -1", desk, BEYOND, d -> d.dig(-1, true));
            refused("dig, field 8", desk, BEYOND, d -> d.dig(8, true));
            refused("dig again", desk, KIND, d -> d.dig(1, true));
            refused("dig again, without a find", desk, KIND, d -> d.dig(1, false));
            refused("look, dug", desk, KIND, d -> d.look(1, 0, 0, true));
            for (int n : new int[] {-1, 4}) {
                refused("look, crop", desk, BEYOND, d -> d.look(0, n, 0, true));
                refused("look, dryness", desk, BEYOND, d -> d.look(0, 0, n, true));
                refused("look, crop ahead of dug", desk, BEYOND, d -> d.look(1, n, 0, false));
                refused("look, dryness ahead of dug", desk, BEYOND, d -> d.look(1, 0, n, false));
                refused("showing, soil", desk, BEYOND, d -> d.showing(n, 0, 0, true));
                refused("showing, crop", desk, BEYOND, d -> d.showing(0, n, 0, true));
                refused("showing, dryness", desk, BEYOND, d -> d.showing(0, 0, n, false));
                refused("plan, crop", desk, BEYOND, d -> d.plan(9, n, 0));
                refused("plan, dryness", desk, BEYOND, d -> d.plan(9, 0, n));
                refused("brings, crop", desk, BEYOND, d -> d.brings(9, n, 0));
                refused("brings, dryness", desk, BEYOND, d -> d.brings(9, 0, n));
            }
            for (int hours : new int[] {-1, 100}) {
                refused("plan, hours", desk, BEYOND, d -> d.plan(hours, 0, 0));
                refused("brings, hours", desk, BEYOND, d -> d.brings(hours, 0, 0));
            }
        }
        refused("field, full", full, FULL, d -> d.field(0, 50, 5));
        refused("look, full", full, FULL, d -> d.look(0, 0, 0, true));
        refused("look, crop ahead of full", full, BEYOND, d -> d.look(0, 4, 0, true));
        refused("look, dryness ahead of full", full, BEYOND, d -> d.look(0, 0, -1, true));
        refused("look, dug ahead of full", full, KIND, d -> d.look(2, 0, 0, false));
        refused("look, crop ahead of dug and full", full, BEYOND, d -> d.look(2, 4, 0, false));
        refused("dig again, after a find", full, KIND, d -> d.dig(2, true));
    }

    private static void ofSheets() {
        Consumer<CornDesk> busy = RefusalsTest::busy;
        Consumer<CornDesk> full = RefusalsTest::full;
        for (int s : new int[] {-1, 4, MIN, MAX}) {
            refused("sheet " + s, busy, BEYOND, d -> d.sheet(s, 8, 1));
            refused("sheet " + s + " ahead of bits and size", busy, BEYOND, d -> d.sheet(s, 9, -1));
            refused("sheet " + s + " ahead of size", busy, BEYOND, d -> d.sheet(s, 8, -1));
            refused("put, sheet " + s, busy, BEYOND, d -> d.put(s, 0, 1));
            refused("copy, sheet " + s, busy, BEYOND, d -> d.copy(s, 0, 0, 0, 1));
            refused("copy, to sheet " + s, busy, BEYOND, d -> d.copy(0, 0, s, 0, 1));
            refused("copy, sheet " + s + " ahead of missing", busy, BEYOND, d -> d.copy(s, 0, 2, 0, 1));
            refused("copy, to sheet " + s + " ahead of missing", busy, BEYOND, d -> d.copy(2, 0, s, 0, -1));
            refused("text, sheet " + s, busy, BEYOND, d -> d.text(s));
        }
        for (int bits : new int[] {-8, 1, 7, 9, 15, 17, 31, 33, 64}) {
            refused("sheet, bits " + bits, busy, BEYOND, d -> d.sheet(0, bits, 2));
            refused("sheet, bits " + bits + " ahead of size", busy, BEYOND, d -> d.sheet(0, bits, -1));
        }
        for (int bits : new int[] {0, 8, 16, 32}) {
            refused("sheet, size", busy, SIZE, d -> d.sheet(0, bits, -1));
            refused("sheet, the least size", busy, SIZE, d -> d.sheet(0, bits, MIN));
            refused("sheet, n 17", busy, BEYOND, d -> d.sheet(0, bits, 17));
            refused("sheet, the greatest n", busy, BEYOND, d -> d.sheet(0, bits, MAX));
        }
        refused("put, missing", busy, MISSING, d -> d.put(2, 0, 1));
        refused("put, missing ahead of the number", busy, MISSING, d -> d.put(2, -1, 1));
        refused("put, missing ahead of the number", busy, MISSING, d -> d.put(2, 16, 1));
        refused("put, number -1", busy, BEYOND, d -> d.put(0, -1, 1));
        refused("put, number 3", busy, BEYOND, d -> d.put(0, 3, 1));
        refused("copy, one is missing", busy, MISSING, d -> d.copy(2, 0, 0, 0, 1));
        refused("copy, the other is missing", busy, MISSING, d -> d.copy(0, 0, 2, 0, 1));
        refused("copy, both are missing", busy, MISSING, d -> d.copy(2, 0, 3, 0, 0));
        refused("copy, missing ahead of the run", busy, MISSING, d -> d.copy(0, -1, 2, -1, -1));
        refused("copy, other bits", busy, KIND, d -> d.copy(0, 0, 1, 0, 1));
        refused("copy, other bits, of nothing", busy, KIND, d -> d.copy(1, 0, 0, 0, 0));
        refused("copy, other bits ahead of the run", busy, KIND, d -> d.copy(0, -1, 1, 0, 1));
        refused("copy, other bits ahead of the run", busy, KIND, d -> d.copy(0, 0, 1, 0, 17));
        refused("copy, from", busy, BEYOND, d -> d.copy(0, -1, 0, 0, 1));
        refused("copy, to", busy, BEYOND, d -> d.copy(0, 0, 0, -1, 1));
        refused("copy, n", busy, BEYOND, d -> d.copy(0, 0, 0, 0, -1));
        refused("copy, n too many", busy, BEYOND, d -> d.copy(0, 0, 0, 0, 4));
        refused("copy, from too far", busy, BEYOND, d -> d.copy(0, 2, 0, 0, 2));
        refused("copy, to too far: not even the first comes", busy, BEYOND, d -> d.copy(0, 0, 0, 2, 2));
        refused("copy, from the longer one", full, BEYOND, d -> d.copy(1, 0, 3, 0, 3));
        refused("text, missing", busy, MISSING, d -> d.text(2));
        refused("text, no sign", busy, BEYOND, d -> d.text(1));
        refused("text, size ahead of no sign", full, SIZE, d -> d.text(1));
    }

    private static void ofTheWhole() {
        refused("undo, none", RefusalsTest::bare, NONE, d -> d.undo());
        refused("undo, none any more", d -> {
            full(d);
            for (int i = 0; i < 20; i++) {
                d.undo();
            }
        }, NONE, d -> d.undo());
        for (int what : new int[] {-1, 5, MIN, MAX}) {
            refused("all(" + what + ")", RefusalsTest::busy, BEYOND, d -> d.all(what));
        }
    }

    public static void main(String[] args) {
        ofPictures();
        ofMarks();
        ofForms();
        ofFields();
        ofSheets();
        ofTheWhole();
        System.out.println(wrong == 0 ? refusals + " refused calls change nothing" : wrong + " things are not as due");
        if (wrong != 0) {
            System.exit(1);
        }
    }
}
