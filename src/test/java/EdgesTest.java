import java.io.IOException;
import java.nio.file.Files;
import java.nio.file.Path;

/**
 * Each sentence of the document that names a boundary case, in the document's order: the last value within a bound and
 * the first beyond it, on both sides; empty and full; where numbers run over or a ring comes round. The order of
 * findings, and that a refused call changes nothing, are in RefusalsTest.
 */
public final class EdgesTest {
    private static final long LOW = -1000000000L;
    private static final long BEYOND = LOW - 1;
    private static final long MISSING = LOW - 2;
    private static final long SIZE = LOW - 3;
    private static final long KIND = LOW - 4;
    private static final long FULL = LOW - 5;
    private static final long NONE = LOW - 6;
    private static final int MIN = Integer.MIN_VALUE;
    private static final int MAX = Integer.MAX_VALUE;

    private static int wrong;
    private static String sentence = "";
    private static String document = "";

    /** A call on a new desk that leaves one number open. */
    private interface Ask {
        long with(int number);
    }

    /** The sentence that the dues behind it test. */
    private static void says(String words) {
        sentence = words;
        if (!document.isEmpty() && !document.contains(words)) {
            System.out.println("no longer in the document: " + words);
        }
    }

    private static void due(String call, long got, long want) {
        if (got != want) {
            wrong++;
            System.out.println("\"" + sentence + "\": " + call + " answered " + got + ", due is " + want);
        }
    }

    /** The least and the most answer what is due inside; their neighbours and the farthest numbers are refused. */
    private static void bounds(String call, int least, int most, long inside, long outside, Ask ask) {
        due(call + " with the least", ask.with(least), inside);
        due(call + " with the most", ask.with(most), inside);
        beyond(call, least, most, outside, ask);
    }

    private static void beyond(String call, int least, int most, long outside, Ask ask) {
        int[] numbers = {least - 1, most + 1, MIN, MAX};
        for (int number : numbers) {
            due(call + " with " + number, ask.with(number), outside);
        }
    }

    private static CornDesk pictures(int n) {
        CornDesk desk = new CornDesk();
        for (int p = 0; p < n; p++) {
            desk.picture();
        }
        return desk;
    }

    /** Pictures that lead u to u and v to v, with DOUBT 1. */
    private static CornDesk straight(int n) {
        CornDesk desk = pictures(n);
        for (int p = 0; p < n; p++) {
            desk.place(p, 0, 0, 0, 0);
            desk.place(p, 999, 999, 999, 999);
        }
        return desk;
    }

    private static CornDesk marks(int n) {
        CornDesk desk = pictures(1);
        for (int m = 0; m < n; m++) {
            desk.mark(0, 0, 0, 0, 0, 0);
        }
        return desk;
    }

    private static CornDesk fields(int n) {
        CornDesk desk = new CornDesk();
        for (int f = 0; f < n; f++) {
            desk.field(0, 50, 1);
        }
        return desk;
    }

    private static void signs(CornDesk desk, int... signs) {
        desk.blank();
        for (int sign : signs) {
            desk.sign(sign);
        }
    }

    /** A picture 0 whose places have v 0, 1, 2, .. at Y 0, 1, 2, .., so that all that is left over is along u. */
    private static CornDesk alongU(int[]... places) {
        CornDesk desk = pictures(1);
        for (int i = 0; i < places.length; i++) {
            desk.place(0, places[i][0], i, places[i][1], i);
        }
        return desk;
    }

    private static CornDesk alongV(int[]... places) {
        CornDesk desk = pictures(1);
        for (int i = 0; i < places.length; i++) {
            desk.place(0, i, places[i][0], i, places[i][1]);
        }
        return desk;
    }

    private static CornDesk along(boolean v, int[]... places) {
        return v ? alongV(places) : alongU(places);
    }

    // ---- terms

    private static void findings() {
        says("LOW - 1 BEYOND, LOW - 2 MISSING, LOW - 3 SIZE, LOW - 4 KIND, LOW - 5 FULL, LOW - 6 NONE");
        CornDesk desk = pictures(6);
        due("BEYOND", desk.unplace(6), -1000000001L);
        due("MISSING", desk.text(0), -1000000002L);
        due("SIZE", desk.sheet(0, 8, -1), -1000000003L);
        desk.mark(0, 0, 0, 0, 0, 0);
        due("KIND", desk.as(0, 1), -1000000004L);
        due("FULL", desk.picture(), -1000000005L);
        due("NONE", desk.unplace(0), -1000000006L);
        due("all of them are counted", desk.all(4), 6);
    }

    private static void lowestAnswers() {
        says("FINDINGS are answers below -999999999");
        // Eight places that lead u 999 to a fraction with this upper part, by the lower part behind it.
        long[] uppers = {-999999999L, -1000000000L, -1000000001L};
        long[] lowers = {1087663, 546679, 889271};
        int[][] us = {{347, 54, 265, 366, 26, 258, 44, 131}, {282, 316, 144, 46, 280, 162, 86, 147},
            {131, 329, 30, 297, 351, 373, 123, 207}};
        int[][] xs = {{125, 716, 0, 388, 910, 0, 161, 814}, {0, 0, 895, 694, 0, 705, 314, 218},
            {617, 0, 705, 588, 0, 0, 368, 276}};
        for (int i = 0; i < 3; i++) {
            CornDesk desk = pictures(1);
            for (int j = 0; j < 8; j++) {
                desk.place(0, us[i][j], j, xs[i][j], j);
            }
            due("led by", desk.led(0, false, 999, true), lowers[i]);
            due("a lower part is no finding", desk.all(4), 0);
            due("led", desk.led(0, false, 999, false), uppers[i]);
            due("findings after " + uppers[i], desk.all(4), i == 0 ? 0 : 1);
        }
    }

    private static void fractions() {
        says("Fractions are told in lowest terms, the lower part above 0 (0 is 0 by 1).");
        for (boolean v : new boolean[] {false, true}) {
            CornDesk falling = along(v, new int[] {0, 1}, new int[] {4, 0});
            long[][] dues = {{0, 1, 1}, {1, 3, 4}, {2, 1, 2}, {4, 0, 1}, {6, -1, 2}, {8, -1, 1}, {7, -3, 4}};
            for (long[] row : dues) {
                due("led to " + row[1] + "/" + row[2], falling.led(0, v, (int) row[0], false), row[1]);
                due("led by " + row[1] + "/" + row[2], falling.led(0, v, (int) row[0], true), row[2]);
            }
            due("miss 0", falling.miss(0, v, false), 0);
            due("miss 0 by 1", falling.miss(0, v, true), 1);
            // Left over: 2 times a half, squared and together a half.
            CornDesk split = along(v, new int[] {0, 0}, new int[] {0, 1}, new int[] {1, 5});
            due("miss 1/2", split.miss(0, v, false), 1);
            due("miss 1/2 by", split.miss(0, v, true), 2);
        }
        long[][] beliefs = {{1, 1, 100}, {2, 1, 50}, {50, 1, 2}, {75, 3, 4}, {99, 99, 100}};
        for (long[] row : beliefs) {
            CornDesk desk = new CornDesk();
            desk.field(0, (int) row[0], 1);
            due("belief", desk.belief(0, false), row[1]);
            due("belief by", desk.belief(0, true), row[2]);
        }
    }

    private static void neededPlaces() {
        says("(It needs two MARKED PLACES with unlike u, or v, else that way is NONE.)");
        CornDesk desk = pictures(1);
        for (int places = 0; places <= 7; places++) {
            for (int way = 0; way < 2; way++) {
                due("led of " + places + " alike", desk.led(0, way == 1, 7, false), NONE);
                due("led by of " + places + " alike", desk.led(0, way == 1, 7, true), NONE);
                due("miss of " + places + " alike", desk.miss(0, way == 1, false), NONE);
                due("miss by of " + places + " alike", desk.miss(0, way == 1, true), NONE);
            }
            due("doubt of " + places + " alike", desk.doubt(0), NONE);
            desk.place(0, 7, 7, places, places);
        }
        desk.unplace(0);
        due("an eighth with unlike u", desk.place(0, 8, 7, 3, 3), 8);
        due("led along u", desk.led(0, false, 8, false), 3);
        due("led along v", desk.led(0, true, 8, false), NONE);
        due("doubt with one way", desk.doubt(0), NONE);
        desk.unplace(0);
        desk.place(0, 7, 8, 3, 3);
        due("led along u with unlike v", desk.led(0, false, 8, false), NONE);
        due("led along v with unlike v", desk.led(0, true, 8, false), 3);
        due("doubt with the other way", desk.doubt(0), NONE);
        CornDesk two = pictures(1);
        two.place(0, 0, 999, 5, 6);
        two.place(0, 1, 998, 5, 6);
        due("two with unlike u", two.led(0, false, 999, false), 5);
        due("two with unlike v", two.led(0, true, 0, false), 6);
        due("doubt of two", two.doubt(0), 1);
    }

    private static void cutDown() {
        says("X of u is a fraction; cut down it is THE PLACE.");
        for (boolean v : new boolean[] {false, true}) {
            // The line is 2 - at / 3.
            CornDesk desk = along(v, new int[] {0, 2}, new int[] {6, 0});
            int[][] dues = {{0, 2}, {1, 1}, {2, 1}, {3, 1}, {4, 0}, {5, 0}, {6, 0}, {7, -1}, {8, -1}, {9, -1}, {10, -2},
                {999, -331}};
            for (int i = 0; i < dues.length; i++) {
                desk.mark(0, 0, v ? 0 : dues[i][0], v ? dues[i][0] : 0, 0, 0);
                due("at of " + dues[i][0], desk.at(i, v), dues[i][1]);
            }
        }
        // The steepest line: 999 for each 1 of u, to both sides.
        CornDesk rising = alongU(new int[] {0, 0}, new int[] {1, 999});
        rising.mark(0, 0, 999, 0, 0, 0);
        due("at on the steepest line", rising.at(0, false), 998001);
        CornDesk falling = alongU(new int[] {0, 999}, new int[] {1, 0});
        falling.mark(0, 0, 999, 0, 0, 0);
        due("at on the steepest line down", falling.at(0, false), -997002);
    }

    private static void doubts() {
        says("DOUBT of a PICTURE: the least whole number that is not below any of what is left over, of both ways, and 1 more");
        // Two places of one u: half their distance is left over, to both sides.
        int[][] dues = {{0, 1}, {1, 2}, {2, 2}, {3, 3}, {4, 3}, {5, 4}, {998, 500}, {999, 501}};
        for (int[] row : dues) {
            for (boolean v : new boolean[] {false, true}) {
                CornDesk desk = along(v, new int[] {0, 0}, new int[] {0, row[0]}, new int[] {1, 0});
                due("doubt with " + row[0] + " by 2 left over", desk.doubt(0), row[1]);
            }
        }
        // Six of seven places of one u have one X: 6/7 of 999 is left over to one side, 1/7 to the other.
        for (int far = 0; far <= 999; far += 999) {
            for (boolean v : new boolean[] {false, true}) {
                int[] near = {0, 999 - far};
                CornDesk desk = along(v, near, near, near, near, near, near, new int[] {0, far}, new int[] {9, 5});
                due("doubt with most left over on one side", desk.doubt(0), 858);
            }
        }
        CornDesk both = pictures(1);
        both.place(0, 0, 0, 0, 0);
        both.place(0, 0, 0, 4, 8);
        both.place(0, 1, 1, 0, 0);
        due("doubt with more left over along v", both.doubt(0), 5);
        both.unplace(0);
        both.unplace(0);
        both.place(0, 0, 0, 8, 4);
        both.place(0, 1, 1, 0, 0);
        due("doubt with more left over along u", both.doubt(0), 5);
    }

    private static void sizesAndGates() {
        says("each has a SIZE (of RINGS and DITCHED 1 to 99; of others 0) and GATES (a set of sides 0 to 3, of RINGS and DITCHED; of others none).");
        for (int k = 0; k < 4; k++) {
            int kind = k;
            boolean round = kind == 1 || kind == 3;
            int size = round ? 50 : 0;
            bounds("size of kind " + kind, round ? 1 : 0, round ? 99 : 0, 0, BEYOND,
                n -> pictures(1).mark(0, kind, 0, 0, n, 0));
            bounds("gates of kind " + kind, 0, round ? 15 : 0, 0, BEYOND,
                n -> pictures(1).mark(0, kind, 0, 0, size, n));
            for (int gates = 0; gates <= 15; gates++) {
                due("gates " + gates + " of kind " + kind, pictures(1).mark(0, kind, 0, 0, size, gates),
                    round || gates == 0 ? 0 : BEYOND);
            }
        }
    }

    private static void agreeing() {
        says("Two MARKS of different PICTURES (both with DOUBT) AGREE, if they are of one kind, and X and Y of their PLACES (cut down) differ by no more than both DOUBTS together, each.");
        for (int by = -4; by <= 4; by++) {
            long want = Math.abs(by) <= 2 ? 1 : 0;
            CornDesk desk = straight(2);
            desk.mark(0, 0, 500, 500, 0, 0);
            desk.mark(1, 0, 500 + by, 500, 0, 0);
            desk.mark(1, 0, 500, 500 + by, 0, 0);
            desk.mark(1, 0, 500 + by, 500 + by, 0, 0);
            desk.mark(1, 0, 500 + by, 500 - by, 0, 0);
            for (int other = 1; other <= 4; other++) {
                due("agree at " + by, desk.agree(0, other), want);
                due("agree at " + by + " the other way round", desk.agree(other, 0), want);
            }
        }
        // Picture 1 has DOUBT 3, since 2 is left over; both have 4 together.
        for (int by = 3; by <= 5; by++) {
            CornDesk desk = straight(1);
            desk.picture();
            desk.place(1, 0, 0, 98, 0);
            desk.place(1, 0, 0, 102, 0);
            desk.place(1, 100, 100, 200, 100);
            due("doubt", desk.doubt(1), 3);
            desk.mark(0, 0, 100 + by, 0, 0, 0);
            desk.mark(1, 0, 0, 0, 0, 0);
            due("agree at " + by + " with DOUBTS 1 and 3", desk.agree(0, 1), by <= 4 ? 1 : 0);
            due("agree at " + by + " with DOUBTS 3 and 1", desk.agree(1, 0), by <= 4 ? 1 : 0);
        }
        // Picture 1 leads 5 to 2 1/2, which is cut to 2: 0 is near enough, 5 is not.
        CornDesk half = straight(1);
        half.picture();
        half.place(1, 0, 0, 0, 0);
        half.place(1, 10, 10, 5, 10);
        half.mark(1, 0, 5, 5, 0, 0);
        half.mark(0, 0, 0, 5, 0, 0);
        half.mark(0, 0, 4, 5, 0, 0);
        half.mark(0, 0, 5, 5, 0, 0);
        due("agree with 2 1/2 cut, from below", half.agree(0, 1), 1);
        due("agree with 2 1/2 cut, from above", half.agree(0, 2), 1);
        due("agree with 2 1/2 cut, too far above", half.agree(0, 3), 0);
        for (int kind = 0; kind < 4; kind++) {
            for (int other = 0; other < 4; other++) {
                CornDesk desk = straight(2);
                desk.mark(0, kind, 5, 5, kind % 2, 0);
                desk.mark(1, other, 5, 5, other % 2, 0);
                due("agree of kinds " + kind + ", " + other, desk.agree(0, 1), kind == other ? 1 : 0);
            }
        }
    }

    private static void agreeingPictures() {
        says("Two MARKS of different PICTURES (both with DOUBT) AGREE");
        CornDesk desk = straight(2);
        desk.mark(0, 0, 5, 5, 0, 0);
        desk.mark(0, 0, 5, 5, 0, 0);
        desk.mark(1, 0, 5, 5, 0, 0);
        due("agree on one picture", desk.agree(0, 1), 0);
        due("agree with itself", desk.agree(0, 0), 0);
        due("agree of two pictures", desk.agree(1, 2), 1);
        desk.unplace(1);
        due("agree where the other has no DOUBT", desk.agree(1, 2), 0);
        due("agree where the first has no DOUBT", desk.agree(2, 1), 0);
        desk.place(1, 999, 0, 999, 0);
        due("agree where one way of the other is NONE", desk.agree(1, 2), 0);
        desk.unplace(0);
        desk.place(0, 999, 0, 999, 0);
        due("agree where one way of both is NONE", desk.agree(1, 2), 0);
        desk.unplace(0);
        desk.unplace(1);
        desk.place(0, 0, 999, 0, 999);
        desk.place(1, 0, 999, 0, 999);
        due("agree where the other way of both is NONE", desk.agree(1, 2), 0);
        // All spots are 0 here, so that nothing but the missing DOUBT keeps them apart.
        CornDesk zero = straight(2);
        zero.mark(0, 0, 0, 0, 0, 0);
        zero.mark(1, 0, 0, 0, 0, 0);
        zero.unplace(1);
        due("agree at 0 where the other has no DOUBT", zero.agree(0, 1), 0);
        due("agree at 0 where the first has no DOUBT", zero.agree(1, 0), 0);
        due("groups at 0", zero.groups(), 2);
    }

    private static void grouping() {
        says("MARKS hang together that AGREE, by way of others, too; GROUPS are numbered by their least MARKS.");
        CornDesk chain = straight(2);
        for (int m = 0; m < 20; m++) {
            chain.mark(m % 2, 0, 2 * m, 0, 0, 0);
        }
        due("groups of a chain of 20", chain.groups(), 1);
        due("group of its end", chain.group(19), 0);
        // The same chain from both ends on, so that the mark that joins them comes last.
        CornDesk late = straight(2);
        int[] order = {0, 18, 1, 17, 2, 16, 3, 15, 4, 14, 5, 13, 6, 12, 7, 11, 8, 10};
        for (int at : order) {
            late.mark(at % 2, 0, 2 * at, 0, 0, 0);
        }
        due("groups of two chains", late.groups(), 2);
        due("group of the second chain", late.group(17), 1);
        late.mark(1, 0, 18, 0, 0, 0);
        due("groups with the one between", late.groups(), 1);
        due("group of the second chain, joined", late.group(17), 0);
        CornDesk apart = straight(2);
        for (int m = 0; m < 20; m++) {
            apart.mark(m % 2, 0, 3 * m, 0, 0, 0);
        }
        due("groups of 20 apart", apart.groups(), 20);
        for (int m = 0; m < 20; m++) {
            due("group of one apart", apart.group(m), m);
        }
        due("is of the last group", apart.is(19), KIND);
        due("is beyond the last group", apart.is(20), BEYOND);
        // Group 1 is that of mark 1, though its other marks come last.
        CornDesk mixed = straight(2);
        int[] spots = {500, 100, 300, 501, 301, 101};
        for (int m = 0; m < 6; m++) {
            mixed.mark(m < 3 ? 0 : 1, 0, spots[m], 0, 0, 0);
        }
        long[] dues = {0, 1, 2, 0, 2, 1};
        for (int m = 0; m < 6; m++) {
            due("group(" + m + ")", mixed.group(m), dues[m]);
        }
    }

    private static void rivalling() {
        says("RIVALS: two MARKS of one PICTURE in one GROUP.");
        for (int ones = 0; ones <= 20; ones++) {
            CornDesk desk = straight(2);
            for (int m = 0; m < 20; m++) {
                desk.mark(m < ones ? 0 : 1, 0, 5, 5, 0, 0);
            }
            int others = 20 - ones;
            boolean joined = ones > 0 && others > 0;
            due("groups of " + ones + " and " + others, desk.groups(), joined ? 1 : 20);
            due("rivals of " + ones + " and " + others, desk.rivals(0),
                joined ? ones * (ones - 1) / 2 + others * (others - 1) / 2 : 0);
        }
        CornDesk desk = straight(6);
        for (int p = 0; p < 6; p++) {
            desk.mark(p, 0, 5, 5, 0, 0);
        }
        due("rivals of six pictures", desk.rivals(0), 0);
    }

    /** A desk with one group of as many marks of a kind, the first with a size and gates, the others with 1 and others. */
    private static CornDesk group(int count, int kind, int size, int gates, int otherGates) {
        CornDesk desk = straight(2);
        for (int m = 0; m < count; m++) {
            boolean first = m == 0;
            boolean round = kind % 2 == 1;
            desk.mark(m % 2, kind, 5, 5, round ? first ? size : 1 : 0, round ? first ? gates : otherGates : 0);
        }
        return desk;
    }

    private static void is(String what, CornDesk desk, long want, int... signs) {
        signs(desk, signs);
        due(what + " by " + java.util.Arrays.toString(signs), desk.is(0), want);
    }

    private static void factSigns() {
        says("1 the number of MARKS of the GROUP; 2 the greatest SIZE; 3 how many GATES all its MARKS have together (each side once); 4 its kind;");
        for (int count = 1; count <= 9; count++) {
            is("a group of " + count, group(count, 0, 0, 0, 0), 1, 1, 10 + count, 21);
        }
        is("a group of 20, above 9", group(20, 0, 0, 0, 0), 1, 19, 1, 20);
        is("a mark's size 0", group(2, 0, 0, 0, 0), 1, 2, 10, 21);
        is("a line's size 0", group(2, 2, 0, 0, 0), 1, 2, 10, 21);
        is("size 1", group(2, 1, 1, 0, 0), 1, 2, 11, 21);
        is("the first is greatest", group(3, 1, 9, 0, 0), 1, 2, 19, 21);
        is("size 99, above 9", group(3, 3, 99, 0, 0), 1, 19, 2, 20);
        int[][] gates = {{0, 0, 0}, {0, 8, 1}, {8, 8, 1}, {1, 8, 2}, {3, 6, 3}, {5, 10, 4}, {15, 15, 4}, {15, 0, 4}, {0, 15, 4}};
        for (int[] row : gates) {
            is("gates " + row[0] + " and " + row[1], group(3, 3, 5, row[0], row[1]), 1, 3, 10 + row[2], 21);
        }
        is("a mark's gates", group(2, 0, 0, 0, 0), 1, 3, 10, 21);
        for (int kind = 0; kind < 4; kind++) {
            is("kind " + kind, group(2, kind, 1, 0, 0), 1, 4, 10 + kind, 21);
        }
        // What one group has is nothing to the next that is asked for.
        CornDesk desk = group(2, 3, 99, 15, 15);
        desk.mark(0, 0, 500, 500, 0, 0);
        long[][] dues = {{1, 11, 0, 1}, {2, 10, 0, 1}, {3, 10, 0, 1}, {4, 10, 0, 1}};
        for (long[] row : dues) {
            signs(desk, (int) row[0], (int) row[1], 21);
            due("sign " + row[0] + " of the first group", desk.is(0), row[2]);
            due("sign " + row[0] + " of the second group", desk.is(1), row[3]);
        }
    }

    private static void numberSigns() {
        says("10 to 19: 0 to 9; 20: the last but one and the last become 1 if the first is less, else 0; 21: likewise equal; 22: the last becomes 1 if it is 0, else 0; 23: both become 1 if both are not 0, else 0; 24: 1 if one is not 0, else 0.");
        int[] digits = {0, 1, 2, 8, 9};
        for (int a : digits) {
            is("the number " + a, group(1, 0, 0, 0, 0), a != 0 ? 1 : 0, 10 + a);
            // With 11 and 21 behind, what comes of it must be 1 itself.
            is("22 of " + a, group(1, 0, 0, 0, 0), a == 0 ? 1 : 0, 10 + a, 22, 11, 21);
            is("22 twice of " + a, group(1, 0, 0, 0, 0), a != 0 ? 1 : 0, 10 + a, 22, 22, 11, 21);
            for (int b : digits) {
                boolean[] true20To24 = {a < b, a == b, b == 0, a != 0 && b != 0, a != 0 || b != 0};
                for (int sign = 20; sign <= 24; sign++) {
                    int value = true20To24[sign - 20] ? 1 : 0;
                    if (sign != 22) {
                        is("sign", group(1, 0, 0, 0, 0), 1, 10 + a, 10 + b, sign, 10 + value, 21);
                    }
                }
            }
        }
        is("two numbers below stay", group(1, 0, 0, 0, 0), 1, 17, 10, 11, 20, 23);
        is("22 takes the last alone", group(1, 0, 0, 0, 0), 1, 17, 10, 22, 23);
    }

    private static void endOfText() {
        says("A GROUP IS of the FORM if it ends with one number alone, not 0.");
        is("ends with 0", group(1, 0, 0, 0, 0), 0, 10);
        is("ends with 1", group(1, 0, 0, 0, 0), 1, 11);
        is("ends with 9", group(1, 0, 0, 0, 0), 1, 19);
        is("ends with 99", group(1, 1, 99, 0, 0), 1, 2);
        is("ends with two", group(1, 0, 0, 0, 0), KIND, 11, 11);
        is("ends with none", group(1, 0, 0, 0, 0), KIND);
        is("a text of 12", group(1, 0, 0, 0, 0), 0, 11, 22, 22, 22, 22, 22, 22, 22, 22, 22, 22, 22);
        is("6 in the row", group(1, 0, 0, 0, 0), 1, 11, 12, 13, 14, 15, 16, 20, 23, 23, 23, 23);
        is("6 in the row, the last two not less", group(1, 0, 0, 0, 0), 0, 11, 12, 13, 14, 16, 15, 20, 23, 23, 23, 23);
        is("6 in the row, the first 0", group(1, 0, 0, 0, 0), 0, 10, 12, 13, 14, 15, 16, 20, 23, 23, 23, 23);
    }

    private static void rightTexts() {
        says("A text is RIGHT if there is always enough in the row, never more than 6, and one at its end.");
        int[] two = {20, 21, 23, 24};
        CornDesk desk = new CornDesk();
        for (int sign : two) {
            int[][] texts = {{sign}, {1, sign}, {1, 1, sign}, {1, 1, 1, sign}, {1, 1, sign, sign}, {1, 1, 1, sign, sign}};
            long[] dues = {0, 1, -1, 4, 3, -1};
            for (int i = 0; i < texts.length; i++) {
                signs(desk, texts[i]);
                due("wrong of " + java.util.Arrays.toString(texts[i]), desk.wrong(), dues[i]);
            }
        }
        int[][] texts = {{}, {22}, {1, 22}, {1, 1, 22}, {2}, {3}, {4}, {10}, {19}, {1, 1}, {1, 1, 1, 1, 1, 1},
            {1, 1, 1, 1, 1, 1, 1}, {1, 1, 1, 1, 1, 1, 22, 1}, {1, 1, 1, 1, 1, 1, 20, 20, 20, 20, 20},
            {1, 1, 1, 1, 1, 1, 1, 20, 20, 20, 20, 20}, {1, 1, 1, 1, 1, 1, 20, 1, 20, 20, 20, 20},
            {1, 1, 1, 1, 1, 1, 20, 1, 1, 20, 20, 20}, {22, 22}, {1, 1, 1, 1, 1, 1, 20, 20, 20, 20, 20, 20}};
        long[] dues = {0, 0, -1, 3, -1, -1, -1, -1, -1, 2, 6, 6, 7, -1, 6, 12, 8, 0, 11};
        CornDesk second = new CornDesk();
        for (int i = 0; i < texts.length; i++) {
            signs(second, texts[i]);
            due("wrong of " + java.util.Arrays.toString(texts[i]), second.wrong(), dues[i]);
        }
    }

    private static void showings() {
        says("told as 1 of 2 (at first), 1 more and 1 more with each that had been seen, 1 more below with each that had not.");
        CornDesk desk = new CornDesk();
        for (int f = 0; f < 8; f++) {
            desk.field(3, 50, 1);
            for (int look = 0; look < 4; look++) {
                desk.look(f, 3, 3, f % 2 == 0);
            }
            due("looks do not count ahead of the dig", desk.showing(3, 3, 3, true), 2 + 4 * f);
            desk.dig(f, true);
            due("showing", desk.showing(3, 3, 3, false), 1 + 4 * (f / 2 + 1));
            due("showing below", desk.showing(3, 3, 3, true), 2 + 4 * (f + 1));
        }
        for (int soil = 0; soil < 4; soil++) {
            teachesNoOther(soil, (soil + 1) % 4, (soil + 2) % 4);
            teachesNoOther(soil, 3 - soil, soil);
        }
    }

    private static void teachesNoOther(int soil, int crop, int dry) {
        CornDesk desk = new CornDesk();
        desk.field(soil, 50, 1);
        desk.look(0, crop, dry, true);
        desk.dig(0, true);
        for (int cell = 0; cell < 64; cell++) {
            boolean taught = cell == soil * 16 + crop * 4 + dry;
            due("showing of each", desk.showing(cell / 16, cell / 4 % 4, cell % 4, false), taught ? 2 : 1);
            due("showing below of each", desk.showing(cell / 16, cell / 4 % 4, cell % 4, true), taught ? 3 : 2);
        }
    }

    /** Seven fields that were dug with 28 looks of one kind, and field 7 with a chance and four looks that saw nothing. */
    private static CornDesk taught(boolean seen, int chance) {
        CornDesk desk = new CornDesk();
        for (int f = 0; f < 8; f++) {
            desk.field(2, f == 7 ? chance : 50, 1);
            for (int look = 0; look < 4; look++) {
                desk.look(f, 1, 0, f < 7 && seen);
            }
        }
        for (int f = 0; f < 7; f++) {
            desk.dig(f, true);
        }
        return desk;
    }

    private static void beliefs() {
        says("1 if a LOOK saw something; else CHANCE, and for each LOOK in turn, with SHOWING s as it is now: p becomes p times (1 - s), by (p times (1 - s) and 1 - p).");
        // SHOWING 29 of 30: 99 by 99 and 30 to the fourth; SHOWING 1 of 30: 29 to the fourth by that and 99 times 30 to it.
        CornDesk seen = taught(true, 99);
        due("belief after the most that was seen", seen.belief(7, false), 11);
        due("belief below after the most that was seen", seen.belief(7, true), 90011);
        CornDesk unseen = taught(false, 1);
        due("belief after the most that was not seen", unseen.belief(7, false), 707281);
        due("belief below after the most that was not seen", unseen.belief(7, true), 80897281);
        for (int which = 0; which < 4; which++) {
            CornDesk desk = new CornDesk();
            desk.field(0, 1, 1);
            for (int look = 0; look < 4; look++) {
                desk.look(0, 0, 0, look == which);
            }
            due("belief where look " + which + " saw it", desk.belief(0, false), 1);
            due("belief below where look " + which + " saw it", desk.belief(0, true), 1);
        }
        // p is 1/100 at first; each look halves it against 99.
        CornDesk least = new CornDesk();
        least.field(0, 1, 1);
        long[] dues = {100, 199, 397, 793, 1585};
        for (int looks = 0; looks <= 4; looks++) {
            due("belief of the least chance", least.belief(0, false), 1);
            due("belief below of the least chance", least.belief(0, true), dues[looks]);
            least.look(0, 3, 3, false);
        }
    }

    private static void planHours() {
        says("a set of FIELDS, HOURS together at most that;");
        CornDesk desk = new CornDesk();
        for (int f = 0; f < 8; f++) {
            desk.field(0, 10 + f, 9);
        }
        due("plan with hours for all", desk.plan(72, 0, 0), 255);
        due("brings with hours for all", desk.brings(72, 0, 0), 50 * (80 + 28));
        due("plan with an hour too few for all", desk.plan(71, 0, 0), 254);
        due("plan with the most hours", desk.plan(99, 0, 0), 255);
        due("plan with hours for one", desk.plan(9, 0, 0), 128);
        due("plan with an hour too few for one", desk.plan(8, 0, 0), 0);
        due("brings with an hour too few for one", desk.brings(8, 0, 0), 0);
        due("plan with no hours", desk.plan(0, 0, 0), 0);
        due("brings with no hours", desk.brings(0, 0, 0), 0);
    }

    private static void planChoice() {
        says("THE PLAN: that which brings most, of several with the fewest HOURS, of these the least set as bits.");
        CornDesk fewest = new CornDesk();
        fewest.field(0, 40, 5);
        fewest.field(0, 20, 2);
        fewest.field(0, 20, 2);
        due("two with fewer hours bring as much as one", fewest.plan(5, 0, 0), 6);
        CornDesk most = new CornDesk();
        most.field(0, 41, 5);
        most.field(0, 20, 2);
        most.field(0, 20, 2);
        due("one brings more, with more hours", most.plan(5, 0, 0), 1);
        CornDesk least = new CornDesk();
        least.field(0, 20, 2);
        least.field(0, 30, 3);
        least.field(0, 20, 2);
        least.field(0, 30, 3);
        due("the least of four sets", least.plan(5, 0, 0), 3);
        due("the least of two sets", least.plan(3, 0, 0), 2);
        due("the least of two sets of one", least.plan(2, 0, 0), 1);
        due("the least of three with two of one kind", least.plan(8, 0, 0), 11);
        CornDesk eight = new CornDesk();
        for (int f = 0; f < 8; f++) {
            eight.field(0, 50, 1);
        }
        for (int hours = 0; hours <= 8; hours++) {
            due("the least of eight alike, " + hours, eight.plan(hours, 0, 0), (1 << hours) - 1);
        }
        // A plan that went before is nothing to the next.
        for (int f = 7; f >= 0; f--) {
            due("plan ahead of undo", eight.plan(99, 0, 0), (2 << f) - 1);
            eight.undo();
        }
        due("plan without fields", eight.plan(99, 0, 0), 0);
        due("brings without fields", eight.brings(99, 0, 0), 0);
        CornDesk dug = new CornDesk();
        dug.field(0, 50, 1);
        dug.field(0, 50, 9);
        due("plan ahead of the digs", dug.plan(99, 0, 0), 3);
        dug.dig(0, true);
        dug.dig(1, false);
        due("plan of fields that bring nothing", dug.plan(99, 0, 0), 0);
        due("brings of fields that bring nothing", dug.brings(99, 0, 0), 0);
    }

    private static void planBrings() {
        says("it brings for each FIELD in which no LOOK saw anything and that was not DUG: CHANCE in hundredths times the upper part of SHOWING by its lower part (as told, cut; in ten thousandths: 100 times CHANCE).");
        CornDesk desk = taught(false, 1);
        due("100 by 30, cut", desk.brings(1, 1, 0), 3);
        due("100 by 2", desk.brings(1, 0, 0), 50);
        CornDesk much = taught(true, 99);
        due("9900 times 29 by 30", much.brings(1, 1, 0), 9570);
        CornDesk alone = new CornDesk();
        alone.field(0, 50, 1);
        alone.look(0, 0, 0, false);
        alone.dig(0, true);
        alone.field(0, 1, 1);
        alone.field(0, 1, 1);
        alone.field(0, 1, 1);
        due("each is cut alone", alone.brings(9, 0, 0), 99);
        CornDesk looked = new CornDesk();
        looked.field(0, 50, 1);
        looked.look(0, 0, 0, false);
        due("a look that saw nothing", looked.plan(1, 0, 0), 1);
        looked.look(0, 0, 0, true);
        due("a look that saw something", looked.plan(1, 0, 0), 0);
        due("it brings nothing", looked.brings(1, 0, 0), 0);
        CornDesk dug = new CornDesk();
        dug.field(0, 50, 1);
        dug.dig(0, false);
        due("a dig that found nothing", dug.plan(1, 0, 0), 0);
        dug.field(0, 50, 1);
        dug.dig(1, true);
        due("a dig that found something", dug.plan(1, 0, 0), 0);
    }

    private static void digTeaches() {
        says("A DIG at a FIELD, once: found something or not; if it did, each LOOK at it counts for SHOWING of its SOIL, CROP and DRYNESS (seen or not).");
        for (int looks = 0; looks <= 4; looks++) {
            for (int found = 0; found < 2; found++) {
                CornDesk desk = new CornDesk();
                desk.field(1, 50, 1);
                for (int i = 0; i < looks; i++) {
                    desk.look(0, i % 4, 3 - i % 4, i % 2 == 0);
                }
                due("dig after " + looks + " looks", desk.dig(0, found == 1), found * looks);
                due("a second dig", desk.dig(0, true), KIND);
                for (int i = 0; i < 4; i++) {
                    boolean counted = found == 1 && i < looks;
                    due("showing", desk.showing(1, i, 3 - i, false), counted && i % 2 == 0 ? 2 : 1);
                    due("showing below", desk.showing(1, i, 3 - i, true), counted ? 3 : 2);
                }
            }
        }
    }

    // ---- promises

    private static void newObject() {
        says("No PICTURES, MARKS, FIELDS; an empty text; SHOWING 1 of 2 everywhere; sheets MISSING.");
        CornDesk desk = new CornDesk();
        for (int what = 0; what <= 4; what++) {
            due("all(" + what + ")", desk.all(what), 0);
        }
        due("groups", desk.groups(), 0);
        due("blank", desk.blank(), 0);
        due("doubt", desk.doubt(0), BEYOND);
        due("at", desk.at(0, false), BEYOND);
        due("belief", desk.belief(0, false), BEYOND);
        for (int s = 0; s < 4; s++) {
            due("text", desk.text(s), MISSING);
        }
        for (int cell = 0; cell < 64; cell++) {
            due("showing", desk.showing(cell / 16, cell / 4 % 4, cell % 4, false), 1);
            due("showing below", desk.showing(cell / 16, cell / 4 % 4, cell % 4, true), 2);
        }
    }

    private static void pictureFull() {
        says("A new PICTURE: its number. FULL: there are 6.");
        due("the first", pictures(0).picture(), 0);
        due("the last", pictures(5).picture(), 5);
        due("one more", pictures(6).picture(), FULL);
        CornDesk desk = pictures(6);
        desk.picture();
        due("how many there are", desk.all(0), 6);
    }

    private static void placeBounds() {
        says("One more MARKED PLACE: how many it has. BEYOND: no such PICTURE, or a number. FULL: it has 8.");
        bounds("picture", 0, 5, 1, BEYOND, n -> pictures(6).place(n, 0, 0, 0, 0));
        bounds("the one picture", 0, 0, 1, BEYOND, n -> pictures(1).place(n, 0, 0, 0, 0));
        due("no picture", pictures(0).place(0, 0, 0, 0, 0), BEYOND);
        bounds("u", 0, 999, 1, BEYOND, n -> pictures(1).place(0, n, 0, 0, 0));
        bounds("v", 0, 999, 1, BEYOND, n -> pictures(1).place(0, 0, n, 0, 0));
        bounds("x", 0, 999, 1, BEYOND, n -> pictures(1).place(0, 0, 0, n, 0));
        bounds("y", 0, 999, 1, BEYOND, n -> pictures(1).place(0, 0, 0, 0, n));
        CornDesk desk = pictures(2);
        for (int i = 1; i <= 8; i++) {
            due("place " + i, desk.place(0, 5, 5, 5, 5), i);
        }
        due("place 9", desk.place(0, 5, 5, 5, 5), FULL);
        due("another picture has its own", desk.place(1, 5, 5, 5, 5), 1);
        due("how many it has after that", desk.unplace(0), 7);
        due("room again", desk.place(0, 5, 5, 5, 5), 8);
    }

    private static void unplaceBounds() {
        says("The latest MARKED PLACE of a PICTURE goes: how many it has. BEYOND. NONE: it has none.");
        CornDesk desk = pictures(2);
        for (int i = 0; i < 8; i++) {
            desk.place(0, i, 999 - i, 2 * i, 0);
        }
        desk.unplace(0);
        desk.place(0, 900, 5, 5, 5);
        for (int left = 7; left >= 0; left--) {
            due("unplace", desk.unplace(0), left);
            due("led by the first " + left, desk.led(0, false, 10, false), left > 1 ? 20 : NONE);
        }
        due("unplace of none", desk.unplace(0), NONE);
        due("unplace of one that never had any", desk.unplace(1), NONE);
        beyond("picture", 0, 1, BEYOND, n -> pictures(2).unplace(n));
    }

    private static void ledBounds() {
        says("BEYOND: no such PICTURE, or at is not 0 to 999. NONE.");
        for (int way = 0; way < 2; way++) {
            boolean v = way == 1;
            for (int below = 0; below < 2; below++) {
                boolean lower = below == 1;
                CornDesk desk = straight(1);
                due("at 0", desk.led(0, v, 0, lower), lower ? 1 : 0);
                due("at 999", desk.led(0, v, 999, lower), lower ? 1 : 999);
                beyond("at", 0, 999, BEYOND, n -> straight(1).led(0, v, n, lower));
                bounds("picture", 0, 5, lower ? 1 : 7, BEYOND, n -> straight(6).led(n, v, 7, lower));
                due("no places", pictures(1).led(0, v, 0, lower), NONE);
            }
        }
    }

    private static void missBounds() {
        says("MISS of one way, as a fraction. BEYOND. NONE.");
        for (int way = 0; way < 2; way++) {
            boolean v = way == 1;
            bounds("picture", 0, 5, 0, BEYOND, n -> straight(6).miss(n, v, false));
            bounds("picture below", 0, 5, 1, BEYOND, n -> straight(6).miss(n, v, true));
            due("no places", pictures(1).miss(0, v, false), NONE);
            // The most that can be left over: 4 places at 0 and 4 at 999 of 2 places on the picture.
            CornDesk most = along(v, new int[] {0, 0}, new int[] {0, 0}, new int[] {0, 999}, new int[] {0, 999},
                new int[] {999, 0}, new int[] {999, 0}, new int[] {999, 999}, new int[] {999, 999});
            due("the most", most.miss(0, v, false), 2L * 999 * 999);
            due("the most below", most.miss(0, v, true), 1);
            due("the most doubt", most.doubt(0), 501);
        }
    }

    private static void doubtBounds() {
        says("DOUBT. BEYOND. NONE.");
        bounds("picture", 0, 5, 1, BEYOND, n -> straight(6).doubt(n));
        due("no picture", pictures(0).doubt(0), BEYOND);
        due("no places", pictures(1).doubt(0), NONE);
    }

    private static void markBounds() {
        says("A new MARK: its number. BEYOND: no such PICTURE, kind, u, v, SIZE, or GATES. FULL: there are 20.");
        bounds("picture", 0, 5, 0, BEYOND, n -> pictures(6).mark(n, 0, 0, 0, 0, 0));
        due("no picture", pictures(0).mark(0, 0, 0, 0, 0, 0), BEYOND);
        due("kind 0", pictures(1).mark(0, 0, 0, 0, 0, 0), 0);
        due("kind 3", pictures(1).mark(0, 3, 0, 0, 1, 0), 0);
        beyond("kind", 0, 3, BEYOND, n -> pictures(1).mark(0, n, 0, 0, 0, 0));
        beyond("kind with a size", 0, 3, BEYOND, n -> pictures(1).mark(0, n, 0, 0, 1, 1));
        for (int k = 0; k < 4; k++) {
            int kind = k;
            bounds("u", 0, 999, 0, BEYOND, n -> pictures(1).mark(0, kind, n, 0, kind % 2, 0));
            bounds("v", 0, 999, 0, BEYOND, n -> pictures(1).mark(0, kind, 0, n, kind % 2, 0));
        }
        due("the last", marks(19).mark(0, 0, 0, 0, 0, 0), 19);
        due("one more", marks(20).mark(0, 0, 0, 0, 0, 0), FULL);
        CornDesk desk = marks(20);
        desk.mark(0, 0, 0, 0, 0, 0);
        due("how many there are", desk.all(1), 20);
        // All 20 stand on all pictures together, not on each.
        CornDesk two = marks(20);
        two.picture();
        due("one more on another picture", two.mark(1, 0, 0, 0, 0, 0), FULL);
    }

    private static void asBounds() {
        says("A MARK as one of a kind: its number. BEYOND: no such MARK, or kind. KIND: it is not of that kind, nor of one under it.");
        due("the first", marks(20).as(0, 0), 0);
        due("the last", marks(20).as(19, 0), 19);
        beyond("mark", 0, 19, BEYOND, n -> marks(20).as(n, 0));
        beyond("one mark", 0, 0, BEYOND, n -> marks(1).as(n, 0));
        beyond("kind", 0, 3, BEYOND, n -> marks(1).as(0, n));
        String[] under = {"1000", "1100", "1010", "1101"};
        for (int kind = 0; kind < 4; kind++) {
            for (int asked = 0; asked < 4; asked++) {
                CornDesk desk = marks(2);
                desk.mark(0, kind, 0, 0, kind % 2, 0);
                due("kind " + kind + " as " + asked, desk.as(2, asked), under[kind].charAt(asked) == '1' ? 2 : KIND);
            }
        }
    }

    private static void atBounds() {
        says("X (alongY: Y) of a MARK'S PLACE. BEYOND. NONE: that way of its PICTURE is.");
        beyond("mark", 0, 19, BEYOND, n -> marks(20).at(n, false));
        beyond("mark along Y", 0, 19, BEYOND, n -> marks(20).at(n, true));
        due("the last mark without places", marks(20).at(19, false), NONE);
        CornDesk desk = pictures(2);
        desk.place(0, 0, 5, 7, 0);
        desk.place(0, 1, 5, 7, 0);
        desk.place(1, 5, 0, 0, 8);
        desk.place(1, 5, 1, 0, 8);
        desk.mark(0, 0, 0, 999, 0, 0);
        desk.mark(1, 0, 999, 0, 0, 0);
        due("X alone", desk.at(0, false), 7);
        due("Y is none", desk.at(0, true), NONE);
        due("X is none", desk.at(1, false), NONE);
        due("Y alone", desk.at(1, true), 8);
    }

    private static void agreeBounds() {
        says("Whether two MARKS AGREE: 1, 0. BEYOND (either).");
        bounds("the first", 0, 19, 0, BEYOND, n -> marks(20).agree(n, 0));
        bounds("the other", 0, 19, 0, BEYOND, n -> marks(20).agree(0, n));
        beyond("both", 0, 19, BEYOND, n -> marks(20).agree(n, n));
        due("no marks", marks(0).agree(0, 0), BEYOND);
    }

    private static void groupBounds() {
        says("The GROUP of a MARK. BEYOND.");
        due("the first", marks(20).group(0), 0);
        due("the last", marks(20).group(19), 19);
        beyond("mark", 0, 19, BEYOND, n -> marks(20).group(n));
        beyond("one mark", 0, 0, BEYOND, n -> marks(1).group(n));
        due("no marks", marks(0).group(0), BEYOND);
        says("How many GROUPS there are.");
        due("no marks", marks(0).groups(), 0);
        due("one", marks(1).groups(), 1);
        due("twenty", marks(20).groups(), 20);
        says("How many RIVALS (pairs) a GROUP has. BEYOND.");
        bounds("group", 0, 19, 0, BEYOND, n -> marks(20).rivals(n));
        bounds("one group", 0, 0, 0, BEYOND, n -> marks(1).rivals(n));
        due("no groups", marks(0).rivals(0), BEYOND);
        // Twenty marks, but one group: groups are asked for, not marks.
        beyond("one group of many", 0, 0, BEYOND, n -> group(20, 0, 0, 0, 0).rivals(n));
        beyond("one group of many", 0, 0, BEYOND, n -> group(20, 0, 0, 0, 0).is(n));
    }

    private static void signBounds() {
        says("One more SIGN comes to the text: how many it has. BEYOND: it is none such. FULL: it has 12.");
        bounds("the first signs", 1, 4, 1, BEYOND, n -> new CornDesk().sign(n));
        bounds("the other signs", 10, 24, 1, BEYOND, n -> new CornDesk().sign(n));
        for (int v = -30; v <= 300; v++) {
            boolean is = v >= 1 && v <= 4 || v >= 10 && v <= 24;
            due("sign(" + v + ")", new CornDesk().sign(v), is ? 1 : BEYOND);
        }
        CornDesk desk = new CornDesk();
        for (int i = 1; i <= 12; i++) {
            due("sign " + i, desk.sign(24), i);
        }
        due("sign 13", desk.sign(24), FULL);
        due("how many it has", desk.all(3), 12);
        says("The text is empty: how many SIGNS it had.");
        due("blank of a full one", desk.blank(), 12);
        due("blank of an empty one", desk.blank(), 0);
        due("room again", desk.sign(24), 1);
        due("blank of one", desk.blank(), 1);
    }

    private static void wrongAndIs() {
        says("-1 (no finding); else the place (from 0 on) of the first SIGN with which it goes wrong, or how many it has.");
        CornDesk desk = new CornDesk();
        due("an empty text", desk.wrong(), 0);
        signs(desk, 20);
        due("the first sign", desk.wrong(), 0);
        signs(desk, 20, 20);
        due("the first of two", desk.wrong(), 0);
        signs(desk, 11, 11, 20, 11, 11, 11, 11, 11, 11, 11, 11, 11);
        due("a seventh number", desk.wrong(), 8);
        signs(desk, 11, 22, 22, 22, 22, 22, 22, 22, 22, 22, 22, 20);
        due("the last of 12", desk.wrong(), 11);
        signs(desk, 11, 22, 22, 22, 22, 22, 22, 22, 22, 22, 22, 11);
        due("how many it has, 12", desk.wrong(), 12);
        signs(desk, 11, 22, 22, 22, 22, 22, 22, 22, 22, 22, 22, 22);
        due("right with 12", desk.wrong(), -1);
        due("none of these is a finding", desk.all(4), 0);
        says("Whether a GROUP IS of the FORM: 1, 0. BEYOND: no such GROUP. KIND: the text is not RIGHT.");
        due("an empty text", marks(1).is(0), KIND);
        bounds("group", 0, 19, 1, BEYOND, n -> {
            CornDesk twenty = marks(20);
            twenty.sign(1);
            return twenty.is(n);
        });
        due("no groups", marks(0).is(0), BEYOND);
    }

    private static void fieldBounds() {
        says("A new FIELD: its number. BEYOND: soil, chance, hours. FULL: there are 8.");
        bounds("soil", 0, 3, 0, BEYOND, n -> new CornDesk().field(n, 50, 5));
        bounds("chance", 1, 99, 0, BEYOND, n -> new CornDesk().field(0, n, 5));
        bounds("hours", 1, 9, 0, BEYOND, n -> new CornDesk().field(0, 50, n));
        due("the last", fields(7).field(0, 50, 1), 7);
        due("one more", fields(8).field(0, 50, 1), FULL);
        CornDesk desk = fields(8);
        desk.field(0, 50, 1);
        due("how many there are", desk.all(2), 8);
    }

    private static void lookBounds() {
        says("A LOOK: how many the FIELD had. BEYOND: no such FIELD, CROP, or DRYNESS. KIND: it was DUG. FULL: it had 4.");
        for (int seen = 0; seen < 2; seen++) {
            boolean saw = seen == 1;
            bounds("field", 0, 7, 1, BEYOND, n -> fields(8).look(n, 0, 0, saw));
            bounds("one field", 0, 0, 1, BEYOND, n -> fields(1).look(n, 0, 0, saw));
            bounds("crop", 0, 3, 1, BEYOND, n -> fields(1).look(0, n, 0, saw));
            bounds("dryness", 0, 3, 1, BEYOND, n -> fields(1).look(0, 0, n, saw));
            due("no fields", fields(0).look(0, 0, 0, saw), BEYOND);
            CornDesk desk = fields(2);
            for (int i = 1; i <= 4; i++) {
                due("look " + i, desk.look(0, 0, 0, saw), i);
            }
            due("look 5", desk.look(0, 0, 0, saw), FULL);
            due("another field has its own", desk.look(1, 0, 0, saw), 1);
            for (int found = 0; found < 2; found++) {
                CornDesk dug = fields(1);
                dug.look(0, 0, 0, saw);
                dug.dig(0, found == 1);
                due("a look at what was dug", dug.look(0, 0, 0, saw), KIND);
            }
        }
    }

    private static void fieldAsks() {
        says("BELIEF. BEYOND.");
        bounds("field", 0, 7, 1, BEYOND, n -> fields(8).belief(n, false));
        bounds("field below", 0, 7, 2, BEYOND, n -> fields(8).belief(n, true));
        due("no fields", fields(0).belief(0, true), BEYOND);
        says("SHOWING: above (below) the line, as counted (not in lowest terms). BEYOND: soil, crop, dry.");
        bounds("soil", 0, 3, 1, BEYOND, n -> new CornDesk().showing(n, 0, 0, false));
        bounds("crop", 0, 3, 1, BEYOND, n -> new CornDesk().showing(0, n, 0, false));
        bounds("dryness", 0, 3, 1, BEYOND, n -> new CornDesk().showing(0, 0, n, false));
        bounds("soil below", 0, 3, 2, BEYOND, n -> new CornDesk().showing(n, 3, 3, true));
        bounds("crop below", 0, 3, 2, BEYOND, n -> new CornDesk().showing(3, n, 3, true));
        bounds("dryness below", 0, 3, 2, BEYOND, n -> new CornDesk().showing(3, 3, n, true));
        CornDesk even = new CornDesk();
        even.field(0, 50, 1);
        even.look(0, 0, 0, true);
        even.look(0, 0, 0, false);
        even.dig(0, true);
        due("2 of 4 above", even.showing(0, 0, 0, false), 2);
        due("2 of 4 below", even.showing(0, 0, 0, true), 4);
        says("A DIG: how many LOOKS counted. BEYOND. KIND: it was DUG.");
        bounds("field", 0, 7, 0, BEYOND, n -> fields(8).dig(n, true));
        bounds("one field", 0, 0, 0, BEYOND, n -> fields(1).dig(n, false));
        due("no fields", fields(0).dig(0, true), BEYOND);
        says("BEYOND: hours is not 0 to 99, or no such CROP, DRYNESS.");
        due("no hours", fields(1).plan(0, 0, 0), 0);
        due("most hours", fields(1).plan(99, 0, 0), 1);
        beyond("hours", 0, 99, BEYOND, n -> fields(1).plan(n, 0, 0));
        bounds("crop", 0, 3, 1, BEYOND, n -> fields(1).plan(1, n, 0));
        bounds("dryness", 0, 3, 1, BEYOND, n -> fields(1).plan(1, 0, n));
        due("no fields", fields(0).plan(99, 3, 3), 0);
        says("What THE PLAN brings. BEYOND.");
        due("no hours", fields(1).brings(0, 0, 0), 0);
        due("most hours", fields(1).brings(99, 0, 0), 2500);
        beyond("hours", 0, 99, BEYOND, n -> fields(1).brings(n, 0, 0));
        bounds("crop", 0, 3, 2500, BEYOND, n -> fields(1).brings(1, n, 0));
        bounds("dryness", 0, 3, 2500, BEYOND, n -> fields(1).brings(1, 0, n));
        due("no fields", fields(0).brings(99, 3, 3), 0);
    }

    private static CornDesk sheets(int bits, int n) {
        CornDesk desk = new CornDesk();
        for (int s = 0; s < 4; s++) {
            desk.sheet(s, bits, n);
        }
        return desk;
    }

    private static void sheetBounds() {
        says("A sheet has n numbers, all 0, of 8, 16 or 32 bits; bits 0: it is MISSING: n (0). BEYOND: no such sheet, or bits. SIZE: n is below 0. BEYOND: n is above 16.");
        for (int width : new int[] {8, 16, 32}) {
            bounds("sheet", 0, 3, 5, BEYOND, n -> new CornDesk().sheet(n, width, 5));
            due("n 0", new CornDesk().sheet(0, width, 0), 0);
            due("n 16", new CornDesk().sheet(0, width, 16), 16);
            due("n 17", new CornDesk().sheet(0, width, 17), BEYOND);
            due("the greatest n", new CornDesk().sheet(0, width, MAX), BEYOND);
            due("n -1", new CornDesk().sheet(0, width, -1), SIZE);
            due("the least n", new CornDesk().sheet(0, width, MIN), SIZE);
            bounds("numbers of the greatest", 0, 15, 0, BEYOND, n -> sheets(width, 16).put(3, n, 1));
            due("an empty sheet is not MISSING", sheets(width, 0).text(0), 0);
            CornDesk again = sheets(width, 1);
            again.put(0, 0, 10);
            due("10 is a sign", again.text(0), 1);
            again.sheet(0, width, 1);
            due("0 again", again.text(0), BEYOND);
            due("bits 0", again.sheet(0, 0, 0), 0);
            due("MISSING", again.text(0), MISSING);
        }
        for (int bits = -40; bits <= 70; bits++) {
            boolean is = bits == 0 || bits == 8 || bits == 16 || bits == 32;
            due("bits " + bits, new CornDesk().sheet(0, bits, 0), is ? 0 : BEYOND);
        }
        due("the least bits", new CornDesk().sheet(0, MIN, 0), BEYOND);
        due("the greatest bits", new CornDesk().sheet(0, MAX, 0), BEYOND);
        bounds("sheet with bits 0", 0, 3, 0, BEYOND, n -> new CornDesk().sheet(n, 0, 0));
        due("bits 0 with n 16", new CornDesk().sheet(0, 0, 16), 0);
        due("bits 0 with n 17", new CornDesk().sheet(0, 0, 17), BEYOND);
        due("bits 0 with n -1", new CornDesk().sheet(0, 0, -1), SIZE);
    }

    private static void putBounds() {
        says("Number i of a sheet becomes v (its lowest bits): 0. BEYOND: no such sheet. MISSING. BEYOND: no such number.");
        bounds("sheet", 0, 3, 0, BEYOND, n -> sheets(8, 1).put(n, 0, 0));
        bounds("missing sheet", 0, 3, MISSING, BEYOND, n -> new CornDesk().put(n, 0, 0));
        bounds("number", 0, 4, 0, BEYOND, n -> sheets(8, 5).put(0, n, 0));
        due("no number", sheets(8, 0).put(0, 0, 0), BEYOND);
        // Whether 1 is left of each number: text takes it as a sign, or refuses another one.
        int[] numbers = {1, 257, 65537, 1 - 256, 1 - 65536, MIN + 1, 0x7fffff01, 0x7fff0001, 128 + 1, 32768 + 1};
        String[] left = {"8 16 32", "8", "8 16", "8", "8 16", "8 16", "8", "8 16", "", "8"};
        for (int width : new int[] {8, 16, 32}) {
            for (int i = 0; i < numbers.length; i++) {
                CornDesk desk = sheets(width, 1);
                due("put", desk.put(0, 0, numbers[i]), 0);
                boolean is = (" " + left[i] + " ").contains(" " + width + " ");
                due(numbers[i] + " in " + width + " bits", desk.text(0), is ? 1 : BEYOND);
            }
            for (int number : new int[] {MIN, MAX, -1, 0, 256, 65536}) {
                CornDesk desk = sheets(width, 1);
                due("put " + number, desk.put(0, 0, number), 0);
                due(number + " in " + width + " bits is no sign", desk.text(0), BEYOND);
            }
        }
    }

    private static void copyBounds() {
        says("n numbers of a sheet from one on come to another one from one on: n. BEYOND: no such sheet (either). MISSING: one is. KIND: they are not of as many bits. BEYOND: one has not so many, or from, to or n is below 0.");
        bounds("from sheet", 0, 3, 2, BEYOND, n -> sheets(8, 5).copy(n, 0, 0, 0, 2));
        bounds("to sheet", 0, 3, 2, BEYOND, n -> sheets(8, 5).copy(0, 0, n, 0, 2));
        bounds("from", 0, 3, 2, BEYOND, n -> sheets(8, 5).copy(0, n, 1, 0, 2));
        bounds("to", 0, 3, 2, BEYOND, n -> sheets(8, 5).copy(0, 0, 1, n, 2));
        due("n 0", sheets(8, 5).copy(0, 0, 1, 0, 0), 0);
        due("n 5", sheets(8, 5).copy(0, 0, 1, 0, 5), 5);
        beyond("n", 0, 5, BEYOND, n -> sheets(8, 5).copy(0, 0, 1, 0, n));
        beyond("n from 1 on", 0, 4, BEYOND, n -> sheets(8, 5).copy(0, 1, 1, 0, n));
        beyond("n to 1 on", 0, 4, BEYOND, n -> sheets(8, 5).copy(0, 0, 1, 1, n));
        bounds("from, with n 0", 0, 5, 0, BEYOND, n -> sheets(8, 5).copy(0, n, 1, 0, 0));
        bounds("to, with n 0", 0, 5, 0, BEYOND, n -> sheets(8, 5).copy(0, 0, 1, n, 0));
        due("sums that run over", sheets(8, 5).copy(0, MAX, 1, MAX, MAX), BEYOND);
        due("sums that run over to 0", sheets(8, 5).copy(0, MAX, 1, 1, MIN + 1), BEYOND);
        due("n of the greatest", sheets(8, 16).copy(0, 0, 1, 0, 16), 16);
        due("n of empty ones", sheets(8, 0).copy(0, 0, 1, 0, 0), 0);
        due("one of empty ones", sheets(8, 0).copy(0, 0, 1, 0, 1), BEYOND);
        int[] widths = {0, 8, 16, 32};
        for (int first : widths) {
            for (int second : widths) {
                CornDesk desk = new CornDesk();
                desk.sheet(0, first, 3);
                desk.sheet(1, second, 3);
                long want = first == 0 || second == 0 ? MISSING : first != second ? KIND : 3;
                due("of " + first + " to " + second + " bits", desk.copy(0, 0, 1, 0, 3), want);
            }
        }
        // The shorter one bounds, on either side.
        CornDesk unlike = new CornDesk();
        unlike.sheet(0, 8, 2);
        unlike.sheet(1, 8, 9);
        due("to the longer one's end", unlike.copy(0, 0, 1, 7, 2), 2);
        due("beyond the longer one's end", unlike.copy(0, 0, 1, 8, 2), BEYOND);
        due("from the longer one's end", unlike.copy(1, 7, 0, 0, 2), 2);
        due("more than the shorter one has", unlike.copy(1, 0, 0, 0, 3), BEYOND);
        due("more than the shorter one has", unlike.copy(0, 0, 1, 0, 3), BEYOND);
    }

    private static void copyOverItself() {
        says("n numbers of a sheet from one on come to another one from one on: n.");
        for (int width : new int[] {8, 16, 32}) {
            // 11 12 21 22 up by one is 11 11 12 21, which is right but for two at its end.
            CornDesk up = sheets(width, 4);
            int[] numbers = {11, 12, 21, 22};
            for (int i = 0; i < 4; i++) {
                up.put(0, i, numbers[i]);
            }
            due("up", up.copy(0, 0, 0, 1, 3), 3);
            due("text", up.text(0), 4);
            due("wrong of 11 11 12 21", up.wrong(), 4);
            up.put(0, 0, 22);
            up.text(0);
            due("wrong of 22 11 12 21", up.wrong(), 0);
            // 22 11 12 21 down by one is 11 12 21 21, where the second 21 has too few.
            due("down", up.copy(0, 1, 0, 0, 3), 3);
            due("text", up.text(0), 4);
            due("wrong of 11 12 21 21", up.wrong(), 3);
            due("onto itself", up.copy(0, 0, 0, 0, 4), 4);
            up.text(0);
            due("wrong of it as it was", up.wrong(), 3);
        }
    }

    private static void textBounds() {
        says("The text becomes the numbers of a sheet: how many SIGNS. BEYOND: no such sheet. MISSING. SIZE: it has more than 12. BEYOND: one of them is no SIGN.");
        bounds("sheet", 0, 3, 0, BEYOND, n -> sheets(8, 0).text(n));
        bounds("missing sheet", 0, 3, MISSING, BEYOND, n -> new CornDesk().text(n));
        for (int width : new int[] {8, 16, 32}) {
            for (int n = 0; n <= 16; n++) {
                CornDesk desk = sheets(width, n);
                for (int i = 0; i < n; i++) {
                    desk.put(0, i, 24);
                }
                due("text of " + n, desk.text(0), n <= 12 ? n : SIZE);
                due("signs of " + n, desk.all(3), n <= 12 ? n : 0);
            }
            for (int v = -2; v <= 127; v++) {
                boolean is = v >= 1 && v <= 4 || v >= 10 && v <= 24;
                CornDesk desk = sheets(width, 1);
                desk.put(0, 0, v);
                due("text of " + v, desk.text(0), is ? 1 : BEYOND);
            }
            for (int odd = 0; odd < 12; odd++) {
                CornDesk desk = sheets(width, 12);
                for (int i = 0; i < 12; i++) {
                    desk.put(0, i, i == odd ? 5 : 1);
                }
                due("text with no sign at " + odd, desk.text(0), BEYOND);
            }
        }
        CornDesk desk = sheets(8, 1);
        desk.put(0, 0, 10);
        desk.sign(1);
        desk.sign(1);
        due("a text takes the place of the one that was", desk.text(0), 1);
        due("how many it has", desk.all(3), 1);
        desk.put(0, 0, 22);
        due("it does not change with the sheet", desk.wrong(), -1);
    }

    // ---- undo and all

    private static void undoNone() {
        says("is undone: how many more can be. NONE.");
        CornDesk desk = new CornDesk();
        due("undo of nothing", desk.undo(), NONE);
        desk.picture();
        due("undo of one", desk.undo(), 0);
        due("undo of nothing again", desk.undo(), NONE);
        desk.picture();
        due("undo after a refused undo", desk.undo(), 0);
    }

    private static void undoEach() {
        says("(picture, place, unplace, mark, sign, blank, text, field, look, dig, without a finding)");
        CornDesk desk = new CornDesk();
        desk.sheet(0, 8, 0);
        desk.picture();
        desk.place(0, 0, 0, 0, 0);
        desk.unplace(0);
        desk.mark(0, 0, 0, 0, 0, 0);
        desk.sign(1);
        desk.blank();
        desk.text(0);
        desk.field(0, 50, 1);
        desk.look(0, 0, 0, true);
        desk.dig(0, true);
        // None of these is kept: they only ask, or change sheets alone.
        desk.led(0, false, 0, false);
        desk.miss(0, false, false);
        desk.doubt(0);
        desk.as(0, 0);
        desk.at(0, false);
        desk.agree(0, 0);
        desk.group(0);
        desk.groups();
        desk.rivals(0);
        desk.wrong();
        desk.is(0);
        desk.belief(0, false);
        desk.showing(0, 0, 0, false);
        desk.plan(9, 0, 0);
        desk.brings(9, 0, 0);
        desk.sheet(1, 8, 3);
        desk.put(1, 0, 1);
        desk.copy(1, 0, 1, 1, 2);
        desk.all(0);
        due("undo dig", desk.undo(), 9);
        due("showing", desk.showing(0, 0, 0, true), 2);
        due("undo look", desk.undo(), 8);
        due("belief", desk.belief(0, true), 2);
        due("undo field", desk.undo(), 7);
        due("fields", desk.all(2), 0);
        due("undo text", desk.undo(), 6);
        due("undo blank", desk.undo(), 5);
        due("signs", desk.all(3), 1);
        due("undo sign", desk.undo(), 4);
        due("signs", desk.all(3), 0);
        due("undo mark", desk.undo(), 3);
        due("marks", desk.all(1), 0);
        due("undo unplace", desk.undo(), 2);
        due("undo place", desk.undo(), 1);
        due("places", desk.unplace(0), NONE);
        due("undo picture", desk.undo(), 0);
        due("pictures", desk.all(0), 0);
        due("the sheet that was put on stays", desk.copy(1, 0, 1, 0, 3), 3);
    }

    private static void undoFromFull() {
        says("The latest act that changed PICTURES, MARKS, the text, FIELDS");
        CornDesk places = pictures(1);
        for (int i = 0; i < 8; i++) {
            places.place(0, i, 2 * i, 3 * i, 4 * i);
        }
        places.unplace(0);
        due("undo of an unplace fills it again", places.undo(), 9);
        due("full", places.place(0, 0, 0, 0, 0), FULL);
        due("led along u", places.led(0, false, 100, false), 300);
        due("led along v", places.led(0, true, 100, false), 200);
        due("nothing is left over", places.doubt(0), 1);
        places.undo();
        due("room again", places.place(0, 0, 0, 0, 0), 8);

        CornDesk text = sheets(8, 12);
        for (int i = 0; i < 12; i++) {
            text.sign(i == 0 ? 11 : 22);
            text.put(0, i, 24);
        }
        text.text(0);
        due("the sheet's text", text.wrong(), 0);
        text.blank();
        text.undo();
        due("12 signs again", text.all(3), 12);
        due("the sheet's again", text.wrong(), 0);
        text.undo();
        due("12 signs of before", text.all(3), 12);
        due("those of before", text.wrong(), -1);
        due("full", text.sign(1), FULL);

        CornDesk looks = fields(8);
        for (int i = 0; i < 4; i++) {
            looks.look(7, 3, 3, i == 3);
        }
        looks.dig(7, true);
        looks.undo();
        due("undug, but full", looks.look(7, 0, 0, false), FULL);
        looks.undo();
        due("the fourth look saw it, the others did not", looks.belief(7, true), 9);
        due("showing", looks.showing(0, 3, 3, false), 1);
        due("showing below", looks.showing(0, 3, 3, true), 2);
        looks.undo();
        looks.undo();
        looks.undo();
        due("undo of a field makes room", looks.undo(), 7);
        due("a field again", looks.field(3, 1, 9), 7);
        due("it is the new one", looks.belief(7, true), 100);
        due("all hours are taken of it", looks.plan(16, 0, 0), 255);

        CornDesk marks = marks(20);
        marks.undo();
        due("a mark again", marks.mark(0, 2, 0, 0, 0, 0), 19);
        due("it is the new one", marks.as(19, 2), 19);
        CornDesk pictures = pictures(6);
        pictures.place(5, 0, 0, 0, 0);
        pictures.undo();
        pictures.undo();
        due("a picture again", pictures.picture(), 5);
        due("it has no places", pictures.unplace(5), NONE);
    }

    private static void undoneAreGone() {
        says("The latest act that changed PICTURES, MARKS, the text, FIELDS");
        CornDesk desk = straight(1);
        desk.picture();
        desk.place(1, 0, 0, 0, 0);
        desk.place(1, 1, 1, 1, 1);
        desk.mark(1, 0, 5, 5, 0, 0);
        desk.undo();
        due("as of an undone mark", desk.as(0, 0), BEYOND);
        due("at of an undone mark", desk.at(0, false), BEYOND);
        due("agree of an undone mark", desk.agree(0, 0), BEYOND);
        due("group of an undone mark", desk.group(0), BEYOND);
        due("groups without it", desk.groups(), 0);
        due("rivals without it", desk.rivals(0), BEYOND);
        due("is without it", desk.is(0), BEYOND);
        desk.undo();
        desk.undo();
        due("undo of picture 1", desk.undo(), 3);
        due("place on an undone picture", desk.place(1, 0, 0, 0, 0), BEYOND);
        due("unplace on an undone picture", desk.unplace(1), BEYOND);
        due("led of an undone picture", desk.led(1, false, 0, false), BEYOND);
        due("miss of an undone picture", desk.miss(1, false, false), BEYOND);
        due("doubt of an undone picture", desk.doubt(1), BEYOND);
        due("mark on an undone picture", desk.mark(1, 0, 0, 0, 0, 0), BEYOND);
        CornDesk fields = fields(2);
        due("undo of field 1", fields.undo(), 1);
        due("look at an undone field", fields.look(1, 0, 0, true), BEYOND);
        due("belief of an undone field", fields.belief(1, true), BEYOND);
        due("dig at an undone field", fields.dig(1, true), BEYOND);
    }

    private static void undoTwenty() {
        says("(The latest 20 are kept; also such as changed nothing.)");
        for (int acts = 1; acts <= 60; acts++) {
            CornDesk desk = new CornDesk();
            desk.picture();
            for (int i = 1; i < acts; i++) {
                desk.blank();
            }
            int kept = Math.min(acts, 20);
            for (int left = kept - 1; left >= 0; left--) {
                due("undo after " + acts, desk.undo(), left);
            }
            due("one undo more after " + acts, desk.undo(), NONE);
            due("the picture after " + acts, desk.all(0), acts <= 20 ? 0 : 1);
        }
        CornDesk nothing = sheets(8, 0);
        nothing.field(0, 50, 1);
        nothing.blank();
        nothing.text(0);
        nothing.dig(0, false);
        due("acts that changed nothing are kept", nothing.undo(), 3);
        due("the latest alone is undone", nothing.look(0, 0, 0, false), 1);
        nothing.undo();
        due("text of nothing", nothing.undo(), 2);
        due("blank of nothing", nothing.undo(), 1);
        due("the field is left", nothing.all(2), 1);
    }

    private static void undoComesRound() {
        says("(The latest 20 are kept; also such as changed nothing.)");
        // Signs and undos by turns, so that the ring comes round while it is neither empty nor full.
        CornDesk desk = new CornDesk();
        int had = 0;
        for (int turn = 0; turn < 40; turn++) {
            for (int i = 0; i < 5; i++) {
                had++;
                due("sign", desk.sign(10 + turn % 10), had);
            }
            for (int i = 0; i < (turn == 0 ? 3 : 5); i++) {
                had--;
                due("undo", desk.undo(), had);
            }
        }
        // 20 are kept; an act after an undo makes 20 again, and the oldest stays done.
        CornDesk full = new CornDesk();
        for (int i = 0; i < 25; i++) {
            full.blank();
        }
        full.sign(1);
        due("undo", full.undo(), 19);
        due("undo", full.undo(), 18);
        full.sign(1);
        full.sign(1);
        full.sign(1);
        for (int left = 19; left >= 0; left--) {
            due("undo", full.undo(), left);
        }
        due("no more", full.undo(), NONE);
        // An undo is no act that can be undone.
        CornDesk again = new CornDesk();
        again.picture();
        again.picture();
        again.undo();
        due("a second undo goes on", again.undo(), 0);
        due("no pictures", again.all(0), 0);
    }

    private static void allBounds() {
        says("0 PICTURES, 1 MARKS, 2 FIELDS, 3 SIGNS, 4 how many acts answered a finding ever (this one, too, if it does). BEYOND: another what.");
        bounds("what", 0, 4, 0, BEYOND, n -> new CornDesk().all(n));
        for (int number = -40; number <= 40; number++) {
            due("all(" + number + ")", new CornDesk().all(number), number >= 0 && number <= 4 ? 0 : BEYOND);
        }
        CornDesk desk = pictures(6);
        for (int m = 0; m < 20; m++) {
            desk.mark(0, 0, 0, 0, 0, 0);
        }
        for (int f = 0; f < 8; f++) {
            desk.field(0, 50, 1);
        }
        for (int i = 0; i < 12; i++) {
            desk.sign(1);
        }
        long[] most = {6, 20, 8, 12, 0};
        for (int what = 0; what <= 4; what++) {
            due("the most", desk.all(what), most[what]);
        }
        for (int i = 1; i <= 100; i++) {
            desk.all(5);
            due("findings", desk.all(4), i);
        }
        desk.undo();
        due("ever, so undo takes none back", desk.all(4), 100);
        due("wrong is no finding", desk.wrong(), 6);
        due("nor is it counted", desk.all(4), 100);
    }

    private static void terms() {
        findings();
        lowestAnswers();
        fractions();
        neededPlaces();
        cutDown();
        doubts();
        sizesAndGates();
        agreeing();
        agreeingPictures();
        grouping();
        rivalling();
        factSigns();
        numberSigns();
        endOfText();
        rightTexts();
        showings();
        beliefs();
        planHours();
        planChoice();
        planBrings();
        digTeaches();
    }

    private static void promises() {
        newObject();
        pictureFull();
        placeBounds();
        unplaceBounds();
        ledBounds();
        missBounds();
        doubtBounds();
        markBounds();
        asBounds();
        atBounds();
        agreeBounds();
        groupBounds();
        signBounds();
        wrongAndIs();
        fieldBounds();
        lookBounds();
        fieldAsks();
        sheetBounds();
        putBounds();
        copyBounds();
        copyOverItself();
        textBounds();
        undoNone();
        undoEach();
        undoFromFull();
        undoneAreGone();
        undoTwenty();
        undoComesRound();
        allBounds();
    }

    public static void main(String[] args) throws IOException {
        Path path = Path.of("../shared/DOC.md");
        document = Files.isReadable(path) ? Files.readString(path) : "";
        terms();
        promises();
        System.out.println(wrong == 0 ? "all edges hold" : wrong + " answers are not as due");
        if (wrong != 0) {
            System.exit(1);
        }
    }
}
