import java.util.Arrays;

/**
 * A desk for marks in the corn: pictures led to the ground by marked places with what is left over, marks on them
 * joined within their doubts, rivals told, forms told by a text of tests, what would have shown if it were there,
 * beliefs that sink only by that, flights planned within hours, and digs that teach the table.
 */
public final class CornDesk {
    private static final long LOW = -1000000000L;
    private static final long BEYOND = LOW - 1;
    private static final long MISSING = LOW - 2;
    private static final long SIZE = LOW - 3;
    private static final long KIND = LOW - 4;
    private static final long FULL = LOW - 5;
    private static final long NONE = LOW - 6;

    private static final int MAX_PICTURES = 6;
    private static final int MAX_PLACES = 8;
    private static final int MAX_MARKS = 20;
    private static final int MAX_SIGNS = 12;
    private static final int MAX_ROW = 6;
    private static final int MAX_FIELDS = 8;
    private static final int MAX_LOOKS = 4;
    private static final int MAX_NUMBERS = 16;
    private static final int MAX_STEPS = 20;
    private static final int SHEETS = 4;

    private static final int GREATEST_SPOT = 999;
    private static final int GREATEST_SIZE = 99;
    private static final int ALL_GATES = 15;
    private static final int GREATEST_CHANCE = 99;
    private static final int GREATEST_FIELD_HOURS = 9;
    private static final int GREATEST_PLAN_HOURS = 99;
    private static final int LEVELS = 4;

    private static final int RING = 1;
    /** For each kind the kind that it is under; -1 for the topmost. */
    private static final int[] KIND_ABOVE = {-1, 0, 0, 1};

    private static final int FACTS = 4;
    private static final int ZERO_SIGN = 10;
    private static final int LESS_SIGN = 20;
    private static final int EQUAL_SIGN = 21;
    private static final int NOT_SIGN = 22;
    private static final int BOTH_SIGN = 23;
    private static final int EITHER_SIGN = 24;

    private static final int ACT_PICTURE = 0;
    private static final int ACT_PLACE = 1;
    private static final int ACT_UNPLACE = 2;
    private static final int ACT_MARK = 3;
    private static final int ACT_SIGN = 4;
    private static final int ACT_TEXT = 5;
    private static final int ACT_FIELD = 6;
    private static final int ACT_LOOK = 7;
    private static final int ACT_DIG = 8;

    private final Picture[] pictures = new Picture[MAX_PICTURES];
    private int pictureCount;
    private final Mark[] marks = new Mark[MAX_MARKS];
    private int markCount;
    private final Groups sorted = new Groups();
    private final Form form = new Form();
    private final Field[] fields = new Field[MAX_FIELDS];
    private int fieldCount;
    private final Table table = new Table();
    private final Flight flight = new Flight();
    private final Sheet[] sheets = new Sheet[SHEETS];
    private final Past past = new Past();
    private long findings;

    public CornDesk() {
        for (int i = 0; i < SHEETS; i++) {
            sheets[i] = new Sheet();
        }
    }

    // ---- pictures

    public long picture() {
        if (pictureCount >= MAX_PICTURES) {
            return told(FULL);
        }
        past.keep(ACT_PICTURE, pictureCount);
        pictures[pictureCount] = new Picture(pictureCount);
        pictureCount++;
        return pictureCount - 1;
    }

    public long place(int picture, int u, int v, int x, int y) {
        Picture known = pictureAt(picture);
        if (known == null || !isSpot(u) || !isSpot(v) || !isSpot(x) || !isSpot(y)) {
            return told(BEYOND);
        }
        if (known.size() >= MAX_PLACES) {
            return told(FULL);
        }
        past.keep(ACT_PLACE, picture);
        known.addPlace(u, v, x, y);
        return known.size();
    }

    public long unplace(int picture) {
        Picture known = pictureAt(picture);
        if (known == null) {
            return told(BEYOND);
        }
        if (known.size() == 0) {
            return told(NONE);
        }
        known.saveLatest(past.keep(ACT_UNPLACE, picture));
        known.dropPlace();
        return known.size();
    }

    public long led(int picture, boolean alongV, int at, boolean below) {
        Picture known = pictureAt(picture);
        if (known == null || !isSpot(at)) {
            return told(BEYOND);
        }
        Line way = known.way(alongV);
        if (!way.isThere()) {
            return told(NONE);
        }
        // This one answer can lie below -999999999 without being one of the six; the document's words count it.
        return told(part(way.upperAt(at), way.lower(), below));
    }

    public long miss(int picture, boolean alongV, boolean below) {
        Picture known = pictureAt(picture);
        if (known == null) {
            return told(BEYOND);
        }
        Line way = known.way(alongV);
        return way.isThere() ? part(way.missUpper(), way.missLower(), below) : told(NONE);
    }

    public long doubt(int picture) {
        Picture known = pictureAt(picture);
        if (known == null) {
            return told(BEYOND);
        }
        return known.hasReach() ? known.reach() : told(NONE);
    }

    // ---- marks

    public long mark(int picture, int kind, int u, int v, int size, int gates) {
        Picture seenOn = pictureAt(picture);
        if (seenOn == null || !isSpot(u) || !isSpot(v) || !isMarkOf(kind, size, gates)) {
            return told(BEYOND);
        }
        if (markCount >= MAX_MARKS) {
            return told(FULL);
        }
        past.keep(ACT_MARK, markCount);
        marks[markCount] = new Mark(seenOn, kind, u, v, size, gates);
        markCount++;
        return markCount - 1;
    }

    public long as(int mark, int kind) {
        Mark known = markAt(mark);
        if (known == null || !isKind(kind)) {
            return told(BEYOND);
        }
        return isUnder(known.kind, kind) ? mark : told(KIND);
    }

    public long at(int mark, boolean alongY) {
        Mark known = markAt(mark);
        if (known == null) {
            return told(BEYOND);
        }
        return known.hasSpot(alongY) ? known.spot(alongY) : told(NONE);
    }

    public long agree(int mark, int other) {
        Mark known = markAt(mark);
        Mark second = markAt(other);
        if (known == null || second == null) {
            return told(BEYOND);
        }
        return known.fits(second) ? 1 : 0;
    }

    public long group(int mark) {
        if (markAt(mark) == null) {
            return told(BEYOND);
        }
        sorted.sort(marks, markCount);
        return sorted.groupOf(mark);
    }

    public long groups() {
        sorted.sort(marks, markCount);
        return sorted.count();
    }

    public long rivals(int group) {
        sorted.sort(marks, markCount);
        return sorted.has(group) ? sorted.rivalPairs(marks, group) : told(BEYOND);
    }

    // ---- forms

    public long sign(int v) {
        if (!isSign(v)) {
            return told(BEYOND);
        }
        if (form.size() >= MAX_SIGNS) {
            return told(FULL);
        }
        past.keep(ACT_SIGN, form.size());
        form.add(v);
        return form.size();
    }

    public long blank() {
        int had = form.size();
        form.saveTo(past.keep(ACT_TEXT, had));
        form.clear();
        return had;
    }

    public long wrong() {
        return form.firstWrong();
    }

    public long is(int group) {
        sorted.sort(marks, markCount);
        if (!sorted.has(group)) {
            return told(BEYOND);
        }
        if (form.firstWrong() >= 0) {
            return told(KIND);
        }
        return form.holds(sorted.facts(marks, group)) ? 1 : 0;
    }

    // ---- fields, looks, digs

    public long field(int soil, int chance, int hours) {
        if (!isLevel(soil) || !isWithin(chance, 1, GREATEST_CHANCE) || !isWithin(hours, 1, GREATEST_FIELD_HOURS)) {
            return told(BEYOND);
        }
        if (fieldCount >= MAX_FIELDS) {
            return told(FULL);
        }
        past.keep(ACT_FIELD, fieldCount);
        fields[fieldCount] = new Field(soil, chance, hours);
        fieldCount++;
        return fieldCount - 1;
    }

    public long look(int field, int crop, int dry, boolean seen) {
        Field known = fieldAt(field);
        if (known == null || !isLevel(crop) || !isLevel(dry)) {
            return told(BEYOND);
        }
        if (known.isDug()) {
            return told(KIND);
        }
        if (known.looks() >= MAX_LOOKS) {
            return told(FULL);
        }
        past.keep(ACT_LOOK, field);
        known.addLook(crop, dry, seen);
        return known.looks();
    }

    public long belief(int field, boolean below) {
        Field known = fieldAt(field);
        return known == null ? told(BEYOND) : known.believed(table, below);
    }

    public long showing(int soil, int crop, int dry, boolean below) {
        if (!isLevel(soil) || !isLevel(crop) || !isLevel(dry)) {
            return told(BEYOND);
        }
        return below ? table.lower(soil, crop, dry) : table.upper(soil, crop, dry);
    }

    public long dig(int field, boolean found) {
        Field known = fieldAt(field);
        if (known == null) {
            return told(BEYOND);
        }
        if (known.isDug()) {
            return told(KIND);
        }
        past.keep(ACT_DIG, field);
        return known.open(found, table);
    }

    public long plan(int hours, int crop, int dry) {
        if (!isFlight(hours, crop, dry)) {
            return told(BEYOND);
        }
        choose(hours, crop, dry);
        return flight.set();
    }

    public long brings(int hours, int crop, int dry) {
        if (!isFlight(hours, crop, dry)) {
            return told(BEYOND);
        }
        choose(hours, crop, dry);
        return flight.gain();
    }

    // ---- sheets, the whole

    public long sheet(int s, int bits, int n) {
        Sheet changed = sheetAt(s);
        if (changed == null || !isWidth(bits)) {
            return told(BEYOND);
        }
        if (n < 0) {
            return told(SIZE);
        }
        if (n > MAX_NUMBERS) {
            return told(BEYOND);
        }
        changed.become(bits, n);
        return changed.size();
    }

    public long put(int s, int i, int v) {
        Sheet changed = sheetAt(s);
        if (changed == null) {
            return told(BEYOND);
        }
        if (changed.isMissing()) {
            return told(MISSING);
        }
        if (!changed.hasRun(i, 1)) {
            return told(BEYOND);
        }
        changed.write(i, v);
        return 0;
    }

    public long copy(int s, int from, int t, int to, int n) {
        Sheet source = sheetAt(s);
        Sheet target = sheetAt(t);
        if (source == null || target == null) {
            return told(BEYOND);
        }
        if (source.isMissing() || target.isMissing()) {
            return told(MISSING);
        }
        if (source.bits() != target.bits()) {
            return told(KIND);
        }
        if (!source.hasRun(from, n) || !target.hasRun(to, n)) {
            return told(BEYOND);
        }
        target.take(source, from, to, n);
        return n;
    }

    public long text(int s) {
        Sheet source = sheetAt(s);
        if (source == null) {
            return told(BEYOND);
        }
        if (source.isMissing()) {
            return told(MISSING);
        }
        if (source.size() > MAX_SIGNS) {
            return told(SIZE);
        }
        if (!source.holdsSigns()) {
            return told(BEYOND);
        }
        form.saveTo(past.keep(ACT_TEXT, form.size()));
        form.become(source.numbers, source.size());
        return form.size();
    }

    public long undo() {
        Step step = past.takeLatest();
        if (step == null) {
            return told(NONE);
        }
        takeBack(step);
        return past.kept();
    }

    public long all(int what) {
        switch (what) {
            case 0:
                return pictureCount;
            case 1:
                return markCount;
            case 2:
                return fieldCount;
            case 3:
                return form.size();
            case 4:
                return findings;
            default:
                return told(BEYOND);
        }
    }

    // ---- what the acts have in common

    /** Hands an answer on, and counts it if it is a finding: the document has these as all answers below -999999999. */
    private long told(long answer) {
        if (answer <= LOW) {
            findings++;
        }
        return answer;
    }

    private Picture pictureAt(int number) {
        return number >= 0 && number < pictureCount && number < pictures.length ? pictures[number] : null;
    }

    private Mark markAt(int number) {
        return number >= 0 && number < markCount && number < marks.length ? marks[number] : null;
    }

    private Field fieldAt(int number) {
        return number >= 0 && number < fieldCount && number < fields.length ? fields[number] : null;
    }

    private Sheet sheetAt(int number) {
        return number >= 0 && number < sheets.length ? sheets[number] : null;
    }

    private void choose(int hours, int crop, int dry) {
        flight.weighFields(fields, fieldCount, table, crop, dry);
        flight.choose(fieldCount, hours);
    }

    private void takeBack(Step step) {
        switch (step.act) {
            case ACT_PICTURE:
                pictureCount--;
                break;
            case ACT_PLACE:
            case ACT_UNPLACE:
                takeBackPlace(step, pictureAt(step.which));
                break;
            case ACT_MARK:
                markCount--;
                break;
            case ACT_SIGN:
                form.drop();
                break;
            case ACT_TEXT:
                form.become(step.row, step.which);
                break;
            case ACT_FIELD:
                fieldCount--;
                break;
            default:
                takeBackVisit(step, fieldAt(step.which));
                break;
        }
    }

    private static void takeBackPlace(Step step, Picture known) {
        if (known == null) {
            return;
        }
        if (step.act == ACT_PLACE) {
            known.dropPlace();
        } else {
            known.addPlace(step.row[0], step.row[1], step.row[2], step.row[3]);
        }
    }

    private void takeBackVisit(Step step, Field known) {
        if (known == null) {
            return;
        }
        if (step.act == ACT_LOOK) {
            known.dropLook();
        } else {
            known.close(table);
        }
    }

    private static boolean isWithin(int number, int least, int greatest) {
        return number >= least && number <= greatest;
    }

    private static boolean isSpot(int number) {
        return isWithin(number, 0, GREATEST_SPOT);
    }

    private static boolean isLevel(int number) {
        return isWithin(number, 0, LEVELS - 1);
    }

    private static boolean isKind(int kind) {
        return isWithin(kind, 0, KIND_ABOVE.length - 1);
    }

    private static boolean isWidth(int bits) {
        return bits == 0 || bits == 8 || bits == 16 || bits == 32;
    }

    private static boolean isSign(int number) {
        return isWithin(number, 1, FACTS) || isWithin(number, ZERO_SIGN, EITHER_SIGN);
    }

    private static boolean isFlight(int hours, int crop, int dry) {
        return isWithin(hours, 0, GREATEST_PLAN_HOURS) && isLevel(crop) && isLevel(dry);
    }

    private static boolean isMarkOf(int kind, int size, int gates) {
        if (!isKind(kind)) {
            return false;
        }
        if (isUnder(kind, RING)) {
            return isWithin(size, 1, GREATEST_SIZE) && isWithin(gates, 0, ALL_GATES);
        }
        return size == 0 && gates == 0;
    }

    /** Whether a kind is the upper one itself, or stands under it by way of others. */
    private static boolean isUnder(int kind, int upper) {
        int reached = kind;
        for (int step = 0; step < KIND_ABOVE.length; step++) {
            if (!isKind(reached)) {
                return false;
            }
            if (reached == upper) {
                return true;
            }
            reached = KIND_ABOVE[reached];
        }
        return false;
    }

    /** The upper or the lower part of a fraction in lowest terms; its lower part is above 0. */
    private static long part(long upper, long lower, boolean below) {
        long common = commonDivisor(Math.abs(upper), lower);
        if (common <= 0) {
            return below ? 1 : 0;
        }
        return (below ? lower : upper) / common;
    }

    private static long commonDivisor(long first, long second) {
        long greater = first;
        long less = second;
        // Two longs never need as many as 100 steps.
        for (int step = 0; step < 100 && less != 0; step++) {
            long rest = greater % less;
            greater = less;
            less = rest;
        }
        return greater;
    }

    /** The straight line with the least sum of squares for one way of a picture. */
    private static final class Line {
        private final int[] from = new int[MAX_PLACES];
        private final int[] to = new int[MAX_PLACES];
        private int count;
        // The line is (base + slope * at) / spread; spread is 0 where there is none.
        private long base;
        private long slope;
        private long spread;
        private long spreadTo;
        private long worst;

        int size() {
            return count;
        }

        void add(int fromSpot, int toSpot) {
            if (count < MAX_PLACES) {
                from[count] = fromSpot;
                to[count] = toSpot;
                count++;
                fit();
            }
        }

        void drop() {
            if (count > 0) {
                count--;
                fit();
            }
        }

        int latestFrom() {
            return count > 0 ? from[count - 1] : 0;
        }

        int latestTo() {
            return count > 0 ? to[count - 1] : 0;
        }

        boolean isThere() {
            return spread > 0;
        }

        long upperAt(int at) {
            return base + slope * at;
        }

        long lower() {
            return spread;
        }

        long cutAt(int at) {
            return spread > 0 ? Math.floorDiv(upperAt(at), spread) : 0;
        }

        long missUpper() {
            return spread * spreadTo - slope * slope;
        }

        long missLower() {
            return spread * count;
        }

        /** The least whole number that nothing left over exceeds, to either side. */
        long worst() {
            return worst;
        }

        private void fit() {
            long sumFrom = 0;
            long sumTo = 0;
            long squaresFrom = 0;
            long squaresTo = 0;
            long products = 0;
            for (int i = 0; i < count; i++) {
                sumFrom += from[i];
                sumTo += to[i];
                squaresFrom += (long) from[i] * from[i];
                squaresTo += (long) to[i] * to[i];
                products += (long) from[i] * to[i];
            }
            spread = count * squaresFrom - sumFrom * sumFrom;
            spreadTo = count * squaresTo - sumTo * sumTo;
            slope = count * products - sumFrom * sumTo;
            base = sumTo * squaresFrom - sumFrom * products;
            measureWorst();
        }

        private void measureWorst() {
            worst = 0;
            if (spread <= 0) {
                return;
            }
            for (int i = 0; i < count; i++) {
                long leftOver = Math.abs(to[i] * spread - upperAt(from[i]));
                worst = Math.max(worst, (leftOver + spread - 1) / spread);
            }
        }
    }

    /** A picture: both its ways to the ground have the same marked places. */
    private static final class Picture {
        private final int number;
        private final Line alongX = new Line();
        private final Line alongY = new Line();

        Picture(int number) {
            this.number = number;
        }

        int size() {
            return alongX.size();
        }

        Line way(boolean second) {
            return second ? alongY : alongX;
        }

        void addPlace(int u, int v, int x, int y) {
            alongX.add(u, x);
            alongY.add(v, y);
        }

        void dropPlace() {
            alongX.drop();
            alongY.drop();
        }

        /** In the order in which addPlace takes them. */
        void saveLatest(Step step) {
            step.row[0] = alongX.latestFrom();
            step.row[1] = alongY.latestFrom();
            step.row[2] = alongX.latestTo();
            step.row[3] = alongY.latestTo();
        }

        boolean hasReach() {
            return alongX.isThere() && alongY.isThere();
        }

        long reach() {
            return Math.max(alongX.worst(), alongY.worst()) + 1;
        }
    }

    /** A mark as it was seen; it is never changed. */
    private static final class Mark {
        private final Picture picture;
        private final int kind;
        private final int u;
        private final int v;
        private final int size;
        private final int gates;

        Mark(Picture picture, int kind, int u, int v, int size, int gates) {
            this.picture = picture;
            this.kind = kind;
            this.u = u;
            this.v = v;
            this.size = size;
            this.gates = gates;
        }

        boolean hasSpot(boolean second) {
            return picture.way(second).isThere();
        }

        long spot(boolean second) {
            return picture.way(second).cutAt(second ? v : u);
        }

        boolean sharesPicture(Mark other) {
            return picture.number == other.picture.number;
        }

        boolean fits(Mark other) {
            if (sharesPicture(other) || kind != other.kind) {
                return false;
            }
            if (!picture.hasReach() || !other.picture.hasReach()) {
                return false;
            }
            long reach = picture.reach() + other.picture.reach();
            return Math.abs(spot(false) - other.spot(false)) <= reach
                    && Math.abs(spot(true) - other.spot(true)) <= reach;
        }
    }

    /** The groups of the marks, sorted anew for each call that asks, since each marked place can change them. */
    private static final class Groups {
        private static final int UNSORTED = -1;
        private final int[] groupOf = new int[MAX_MARKS];
        private final int[] members = new int[MAX_MARKS];
        private final int[] facts = new int[FACTS];
        private int total;
        private int count;

        void sort(Mark[] marks, int markCount) {
            total = standing(marks, markCount);
            count = 0;
            Arrays.fill(groupOf, UNSORTED);
            for (int i = 0; i < total; i++) {
                if (groupOf[i] == UNSORTED) {
                    gather(marks, i);
                    count++;
                }
            }
        }

        /** How many marks there are from 0 on; with this asked once, all below it can be used. */
        private static int standing(Mark[] marks, int markCount) {
            int most = Math.min(Math.min(markCount, MAX_MARKS), marks.length);
            int found = 0;
            while (found < most && marks[found] != null) {
                found++;
            }
            return found;
        }

        private void gather(Mark[] marks, int least) {
            members[0] = least;
            groupOf[least] = count;
            int found = 1;
            for (int asked = 0; asked < found && asked < MAX_MARKS; asked++) {
                Mark member = marks[members[asked]];
                for (int i = least + 1; i < total && found < MAX_MARKS; i++) {
                    if (groupOf[i] == UNSORTED && member.fits(marks[i])) {
                        groupOf[i] = count;
                        members[found] = i;
                        found++;
                    }
                }
            }
        }

        int count() {
            return count;
        }

        boolean has(int group) {
            return group >= 0 && group < count;
        }

        int groupOf(int mark) {
            return mark >= 0 && mark < total ? groupOf[mark] : UNSORTED;
        }

        int rivalPairs(Mark[] marks, int group) {
            int pairs = 0;
            for (int i = 0; i < total; i++) {
                for (int j = i + 1; j < total; j++) {
                    if (groupOf[i] == group && groupOf[j] == group && marks[i].sharesPicture(marks[j])) {
                        pairs++;
                    }
                }
            }
            return pairs;
        }

        /** What the signs 1 to 4 stand for, in their order. */
        int[] facts(Mark[] marks, int group) {
            int gates = 0;
            Arrays.fill(facts, 0);
            for (int i = 0; i < total; i++) {
                if (groupOf[i] == group) {
                    facts[0]++;
                    facts[1] = Math.max(facts[1], marks[i].size);
                    gates |= marks[i].gates;
                    facts[3] = marks[i].kind;
                }
            }
            facts[2] = Integer.bitCount(gates);
            return facts;
        }
    }

    /** The text of signs, and the row of numbers that it is read with. */
    private static final class Form {
        private final int[] signs = new int[MAX_SIGNS];
        private int count;
        // One place more than the row may have, so that the place behind the last number is always there.
        private final int[] row = new int[MAX_ROW + 1];

        int size() {
            return count;
        }

        void add(int sign) {
            if (count < MAX_SIGNS) {
                signs[count] = sign;
                count++;
            }
        }

        void drop() {
            if (count > 0) {
                count--;
            }
        }

        void clear() {
            count = 0;
        }

        void saveTo(Step step) {
            System.arraycopy(signs, 0, step.row, 0, count);
        }

        void become(int[] numbers, int n) {
            count = Math.max(0, Math.min(Math.min(n, MAX_SIGNS), numbers.length));
            System.arraycopy(numbers, 0, signs, 0, count);
        }

        /** -1 if the text is right, else where it goes wrong. */
        int firstWrong() {
            int depth = 0;
            for (int i = 0; i < count; i++) {
                int first = depth - taken(signs[i]);
                if (first < 0 || first >= MAX_ROW) {
                    return i;
                }
                depth = first + 1;
            }
            return depth == 1 ? -1 : count;
        }

        /** Whether a right text ends with a number that is not 0. */
        boolean holds(int[] facts) {
            int depth = 0;
            for (int i = 0; i < count; i++) {
                int first = depth - taken(signs[i]);
                if (first < 0 || first >= MAX_ROW) {
                    return false;
                }
                row[first] = read(signs[i], row[first], row[first + 1], facts);
                depth = first + 1;
            }
            return depth == 1 && row[0] != 0;
        }

        /** How many numbers a sign takes from the row; each sign brings one. */
        private static int taken(int sign) {
            if (sign < LESS_SIGN) {
                return 0;
            }
            return sign == NOT_SIGN ? 1 : 2;
        }

        private static int read(int sign, int first, int second, int[] facts) {
            switch (sign) {
                case LESS_SIGN:
                    return first < second ? 1 : 0;
                case EQUAL_SIGN:
                    return first == second ? 1 : 0;
                case NOT_SIGN:
                    return first == 0 ? 1 : 0;
                case BOTH_SIGN:
                    return first != 0 && second != 0 ? 1 : 0;
                case EITHER_SIGN:
                    return first != 0 || second != 0 ? 1 : 0;
                default:
                    return isWithin(sign, 1, facts.length) ? facts[sign - 1] : sign - ZERO_SIGN;
            }
        }
    }

    /** Of how many digs that found something how many had been seen, by soil, crop and dryness. */
    private static final class Table {
        private static final int CELLS = LEVELS * LEVELS * LEVELS;
        private final int[] upper = new int[CELLS];
        private final int[] lower = new int[CELLS];

        Table() {
            Arrays.fill(upper, 1);
            Arrays.fill(lower, 2);
        }

        private static int cell(int soil, int crop, int dry) {
            return isLevel(soil) && isLevel(crop) && isLevel(dry) ? (soil * LEVELS + crop) * LEVELS + dry : 0;
        }

        int upper(int soil, int crop, int dry) {
            return upper[cell(soil, crop, dry)];
        }

        int lower(int soil, int crop, int dry) {
            return lower[cell(soil, crop, dry)];
        }

        /** By 1 for a look that counts, by -1 for one whose dig is undone. */
        void count(int cell, boolean seen, int by) {
            if (cell >= 0 && cell < CELLS) {
                upper[cell] += seen ? by : 0;
                lower[cell] += by;
            }
        }
    }

    /** A field with its looks and its dig. */
    private static final class Field {
        private final int soil;
        private final int chance;
        private final int hours;
        private final int[] crops = new int[MAX_LOOKS];
        private final int[] drys = new int[MAX_LOOKS];
        private final boolean[] seen = new boolean[MAX_LOOKS];
        private int looks;
        private boolean dug;
        private boolean found;

        Field(int soil, int chance, int hours) {
            this.soil = soil;
            this.chance = chance;
            this.hours = hours;
        }

        int looks() {
            return looks;
        }

        boolean isDug() {
            return dug;
        }

        void addLook(int crop, int dry, boolean sawSomething) {
            if (looks < MAX_LOOKS) {
                crops[looks] = crop;
                drys[looks] = dry;
                seen[looks] = sawSomething;
                looks++;
            }
        }

        void dropLook() {
            if (looks > 0) {
                looks--;
            }
        }

        /** Digs: answers how many looks counted. */
        int open(boolean foundSomething, Table table) {
            dug = true;
            found = foundSomething;
            return count(table, 1);
        }

        void close(Table table) {
            count(table, -1);
            dug = false;
            found = false;
        }

        private int count(Table table, int by) {
            if (!found) {
                return 0;
            }
            for (int i = 0; i < looks; i++) {
                table.count(Table.cell(soil, crops[i], drys[i]), seen[i], by);
            }
            return looks;
        }

        private boolean wasSeen() {
            for (int i = 0; i < looks; i++) {
                if (seen[i]) {
                    return true;
                }
            }
            return false;
        }

        long believed(Table table, boolean below) {
            if (wasSeen()) {
                return 1;
            }
            long upper = chance;
            long lower = 100;
            for (int i = 0; i < looks; i++) {
                long shown = table.upper(soil, crops[i], drys[i]);
                long digs = table.lower(soil, crops[i], drys[i]);
                long hidden = upper * (digs - shown);
                lower = hidden + (lower - upper) * digs;
                upper = hidden;
            }
            return part(upper, lower, below);
        }

        /** What a flight over it brings, in ten thousandths. */
        long gain(Table table, int crop, int dry) {
            long digs = table.lower(soil, crop, dry);
            if (dug || wasSeen() || digs <= 0) {
                return 0;
            }
            return 100L * chance * table.upper(soil, crop, dry) / digs;
        }
    }

    /** The choice of the fields to fly over. */
    private static final class Flight {
        private final long[] gains = new long[MAX_FIELDS];
        private final int[] hours = new int[MAX_FIELDS];
        private int bestSet;
        private long bestGain;
        private int bestHours;

        int set() {
            return bestSet;
        }

        long gain() {
            return bestGain;
        }

        void weighFields(Field[] fields, int count, Table table, int crop, int dry) {
            for (int i = 0; i < count && i < MAX_FIELDS && fields[i] != null; i++) {
                gains[i] = fields[i].gain(table, crop, dry);
                hours[i] = fields[i].hours;
            }
        }

        /** Sets come in their order as bits, so of sets that are alike the least stays. */
        void choose(int count, int limit) {
            bestSet = 0;
            bestGain = 0;
            bestHours = 0;
            int sets = 1 << Math.min(count, MAX_FIELDS);
            for (int set = 1; set < sets; set++) {
                weighSet(set, limit);
            }
        }

        private void weighSet(int set, int limit) {
            long gain = 0;
            int spent = 0;
            for (int i = 0; i < MAX_FIELDS; i++) {
                if ((set >> i & 1) == 1) {
                    gain += gains[i];
                    spent += hours[i];
                }
            }
            if (spent <= limit && (gain > bestGain || gain == bestGain && spent < bestHours)) {
                bestSet = set;
                bestGain = gain;
                bestHours = spent;
            }
        }
    }

    /** A sheet; with 0 bits it is missing. */
    private static final class Sheet {
        private final int[] numbers = new int[MAX_NUMBERS];
        private int bits;
        private int count;

        boolean isMissing() {
            return bits == 0;
        }

        int bits() {
            return bits;
        }

        int size() {
            return count;
        }

        void become(int newBits, int n) {
            bits = newBits;
            count = newBits == 0 ? 0 : n;
            Arrays.fill(numbers, 0);
        }

        /** Whether it has n numbers from one on; asked without a sum that could run over. */
        boolean hasRun(int from, int n) {
            return from >= 0 && n >= 0 && from <= count && n <= count - from;
        }

        void write(int i, int number) {
            if (i >= 0 && i < count) {
                numbers[i] = bits == 32 ? number : number & ((1 << bits) - 1);
            }
        }

        void take(Sheet source, int from, int to, int n) {
            if (source.hasRun(from, n) && hasRun(to, n)) {
                System.arraycopy(source.numbers, from, numbers, to, n);
            }
        }

        boolean holdsSigns() {
            for (int i = 0; i < count; i++) {
                if (!isSign(numbers[i])) {
                    return false;
                }
            }
            return true;
        }
    }

    /** One act that can be undone, with what cannot be told from the state after it. */
    private static final class Step {
        private int act;
        /** The number of the picture or field, or how many signs the text had. */
        private int which;
        /** The place that went, or the text that was. */
        private final int[] row = new int[MAX_SIGNS];
    }

    /** The latest acts, in a ring in which the oldest makes room. */
    private static final class Past {
        private final Step[] steps = new Step[MAX_STEPS];
        private int next;
        private int kept;

        Past() {
            for (int i = 0; i < MAX_STEPS; i++) {
                steps[i] = new Step();
            }
        }

        int kept() {
            return kept;
        }

        Step keep(int act, int which) {
            Step step = steps[next];
            step.act = act;
            step.which = which;
            next = (next + 1) % MAX_STEPS;
            kept = Math.min(kept + 1, MAX_STEPS);
            return step;
        }

        Step takeLatest() {
            if (kept == 0) {
                return null;
            }
            kept--;
            next = (next + MAX_STEPS - 1) % MAX_STEPS;
            return steps[next];
        }
    }
}
