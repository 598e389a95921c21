/** The books of a court with wills, and what they tell of the living; ../shared/DOC.md says what each call answers. */
public final class BookOfWills {
    public static final int BAD = -1, NOT = -2, FULL = -3, NONE = -4, NULL = -11, CAST = -12, INDEX = -13, SIZE = -14;

    private static final int YEARS = 8;
    private static final int AGES = 6;
    private static final int MOST_WILLS = 24;
    private static final int THINGS = 4;
    private static final int MOST_HAD = 9999;
    private static final int MOST_KEEN = 999;
    private static final int MOST_PEOPLE = 999999;
    private static final int MARKS = 4;
    private static final int MARK_W = 8;
    private static final int FIRST_MARKS = 9;
    private static final int CLAUSES = 8;
    private static final int MOST_BYTES = 100;
    private static final int SHEETS = 4;
    private static final int MOST_ITEMS = 24;
    private static final int NOBODY = -1;
    private static final long MOST_COUNTED = 1000000000000000L;
    /** BAD of calls that may well tell a number below 0. */
    private static final long BAD_BELOW = -1000000000000000001L;

    private final World world = new World();
    private final World kept = new World();
    private boolean hasImage;
    private final Living living = new Living();
    private final Tape tape = new Tape();
    private final Laws newLaws = new Laws();
    private final Wills newWills = new Wills();
    private final Sheets sheets = new Sheets();

    public BookOfWills() {
    }

    // ---- 1 wills, rules

    public int lives(int age, int v) {
        if (!isWithin(age, 0, AGES - 1) || !isWithin(v, 1, 400)) {
            return BAD;
        }
        int was = world.lives[age];
        world.lives[age] = v;
        return was;
    }

    public int set(int what, int v) {
        if (what == 0 && isWithin(v, 0, 99999)) {
            int was = world.riches;
            world.riches = v;
            return was;
        }
        if (what == 1 && isWithin(v, 0, 100)) {
            int was = world.more;
            world.more = v;
            return was;
        }
        return BAD;
    }

    public int will(int year, int age, int sex, int money) {
        if (!isYear(year) || !isWithin(age, 0, AGES - 1) || !isWithin(sex, 0, 1) || !isWithin(money, 0, MOST_HAD)) {
            return BAD;
        }
        if (!world.wills.hasRoomFor(1)) {
            return FULL;
        }
        world.wills.add(year, age, sex, money);
        return world.wills.size - 1;
    }

    public int had(int will, int what, int v) {
        if (!world.wills.has(will) || !isWithin(what, 0, THINGS - 1) || !isWithin(v, 0, MOST_HAD)) {
            return BAD;
        }
        int place = will * THINGS + what;
        int was = world.wills.had[place];
        world.wills.had[place] = v;
        return was;
    }

    public int told(int will, int what) {
        if (!world.wills.has(will)) {
            return BAD;
        }
        int year = world.wills.year[will];
        switch (what) {
            case 0:
                return year;
            case 1:
                return world.wills.age[will];
            case 2:
                return world.wills.sex[will];
            case 3:
                return world.seen(will, year);
            case 4:
                return world.sworn(will, year);
            case 5:
                return world.isInBook(will, year) ? 1 : 0;
            case 6:
                return world.weight(will, year);
            case 7:
                return world.kind(will);
            default:
                return BAD;
        }
    }

    public int burn(int will) {
        if (!world.wills.has(will)) {
            return BAD;
        }
        world.wills.removeOne(will);
        return world.wills.size;
    }

    public int type(long w, int n) {
        if (!isWithin(n, 1, 8)) {
            return BAD;
        }
        for (int i = 0; i < n; i++) {
            if (!isWithin(byteOf(w, i), 32, 126)) {
                return BAD;
            }
        }
        if (!tape.hasRoomFor(n)) {
            return FULL;
        }
        for (int i = n - 1; i >= 0; i--) {
            tape.add(byteOf(w, i));
        }
        return tape.size;
    }

    public int rules() {
        newLaws.takeFrom(world.laws);
        int answer = tape.readLaws(newLaws);
        tape.clear();
        if (answer > 0) {
            world.laws.takeFrom(newLaws);
        }
        return answer;
    }

    public int rule(int year, int what) {
        if (!isYear(year)) {
            return BAD;
        }
        switch (what) {
            case 0:
                return world.laws.floor[year];
            case 1:
                return world.laws.line[year];
            case 2:
                return world.laws.keen[year];
            case 3:
                return world.laws.marks[year];
            default:
                return BAD;
        }
    }

    public int wills() {
        newWills.size = 0;
        int answer = tape.readWills(newWills);
        tape.clear();
        if (answer <= 0) {
            return answer;
        }
        if (!world.wills.hasRoomFor(newWills.size)) {
            return FULL;
        }
        world.wills.addAll(newWills);
        return answer;
    }

    public int draw(long seed, int year, int n) {
        if (!isYear(year) || !isWithin(n, 1, MOST_WILLS)) {
            return BAD;
        }
        if (!world.wills.hasRoomFor(n)) {
            return FULL;
        }
        long x = seed;
        for (int i = 0; i < n; i++) {
            x = x * 6364136223846793005L + 1442695040888963407L;
            long r = x >>> 33;
            int root = (int) (r / 12 % 10000);
            world.wills.add(year, (int) (r % AGES), (int) (r / AGES % 2), root * root / 10000);
        }
        return world.wills.size;
    }

    public int people(int year, int what, int v) {
        if (!isYear(year)) {
            return BAD;
        }
        if (what == 0 && isWithin(v, 1, MOST_PEOPLE)) {
            int was = world.people[year];
            world.people[year] = v;
            return was;
        }
        if (what == 1 && isWithin(v, 1, 999)) {
            int was = world.prices[year];
            world.prices[year] = v;
            return was;
        }
        return BAD;
    }

    public int count(int what) {
        switch (what) {
            case 0:
                return world.wills.size;
            case 1:
            case 2:
            case 3:
                return world.howManyOfKind(what);
            case 4:
                return yearsWithShare();
            case 5:
                return Integer.bitCount(world.counted);
            default:
                return BAD;
        }
    }

    private int yearsWithShare() {
        int n = 0;
        for (int year = 0; year < YEARS; year++) {
            if (world.sumSworn(year, year) > 0) {
                n++;
            }
        }
        return n;
    }

    // ---- 2 the living

    public long total(int year, int what) {
        if (!isYear(year) || !isWithin(what, 0, 1)) {
            return BAD;
        }
        return what == 0 ? world.sumSworn(year, year) : world.sumUnseen(year);
    }

    public long share(int year, int q, int what) {
        if (!isYear(year) || !isTop(q) || !isWithin(what, 0, 2)) {
            return BAD;
        }
        living.gather(world, year, year);
        long total = living.sumAll(NOBODY);
        if (total == 0) {
            return NONE;
        }
        long above = living.sumTop(world.topRoom(year, q), NOBODY);
        long below = 10 * total;
        if (what == 2) {
            return parts(above, total);
        }
        long common = commonDivisor(above, below);
        return divided(what == 0 ? above : below, common);
    }

    public int maker(int year, int q, int what) {
        if (!isYear(year) || !isTop(q) || !isWithin(what, 0, 1)) {
            return BAD;
        }
        living.gather(world, year, year);
        long room = world.topRoom(year, q);
        int asItIs = living.partsOfTop(room, NOBODY);
        if (asItIs == NONE) {
            return NONE;
        }
        int best = NOBODY;
        int bestOther = -1;
        int bestParts = 0;
        for (int i = 0; i < living.size; i++) {
            int will = living.number[i];
            int without = noneAsZero(living.partsOfTop(room, will));
            int other = Math.abs(without - asItIs);
            if (other > bestOther || other == bestOther && will < best) {
                best = will;
                bestOther = other;
                bestParts = without;
            }
        }
        return what == 0 ? best : bestParts;
    }

    public int span(int year, int q, int what) {
        if (!isYear(year) || !isTop(q) || !isWithin(what, 0, 1)) {
            return BAD;
        }
        living.gather(world, year, year);
        long room = world.topRoom(year, q);
        int least = living.partsOfTop(room, NOBODY);
        if (least == NONE) {
            return NONE;
        }
        int most = least;
        for (int i = 0; i < living.size; i++) {
            int without = noneAsZero(living.partsOfTop(room, living.number[i]));
            least = Math.min(least, without);
            most = Math.max(most, without);
        }
        return what == 0 ? least : most;
    }

    public int smooth(int year, int q, int k) {
        if (!isYear(year) || !isTop(q) || !isWithin(k, 0, 3)) {
            return BAD;
        }
        long tops = 0;
        long totals = 0;
        int last = Math.min(year + k, YEARS - 1);
        for (int y = Math.max(year - k, 0); y <= last; y++) {
            living.gather(world, y, y);
            tops += living.sumTop(world.topRoom(y, q), NOBODY);
            totals += living.sumAll(NOBODY);
        }
        return totals == 0 ? NONE : parts(tops, totals);
    }

    public int jump(int q, int what) {
        if (!isTop(q) || !isWithin(what, 0, 1)) {
            return BAD;
        }
        int best = NONE;
        int bestChange = NONE;
        int before = partsOfYear(0, 0, q);
        for (int year = 0; year < YEARS - 1; year++) {
            int behind = partsOfYear(year + 1, year + 1, q);
            if (before != NONE && behind != NONE && Math.abs(behind - before) > bestChange) {
                best = year;
                bestChange = Math.abs(behind - before);
            }
            before = behind;
        }
        return what == 0 ? best : bestChange;
    }

    /** PARTS of a YEAR by RULES of a YEAR, or NONE. */
    private int partsOfYear(int year, int by, int q) {
        living.gather(world, year, by);
        return living.partsOfTop(world.topRoom(year, q), NOBODY);
    }

    // ---- 3 rules alone, what is unseen, other counts

    public long alone(int year, int of, int q) {
        if (!isYear(year) || !isYear(of) || !isTop(q)) {
            return BAD_BELOW;
        }
        return noneAsZero(partsOfYear(year, of, q)) - noneAsZero(partsOfYear(year, year, q));
    }

    public int bounds(int year, int q, int what) {
        if (!isYear(year) || !isTop(q) || !isWithin(what, 0, 1)) {
            return BAD;
        }
        living.gather(world, year, year);
        long unseen = world.sumUnseen(year);
        long all = living.sumAll(NOBODY) + unseen;
        if (all == 0) {
            return NONE;
        }
        long top = living.sumTop(world.topRoom(year, q), NOBODY);
        return parts(what == 0 ? top : top + 10 * unseen, all);
    }

    public int heap(int years, int w, int what) {
        if (!isWithin(years, 1, (1 << YEARS) - 1) || !isWithin(w, 1, 999) || !isWithin(what, 0, 3)) {
            return BAD;
        }
        int below = world.howManyNearLine(years, -w, 0);
        int above = world.howManyNearLine(years, 1, w);
        int heaped = Math.max(below - above, 0);
        switch (what) {
            case 0:
                return heaped;
            case 1:
                return heaped * world.laws.greatestKeen(years);
            case 2:
                return below;
            default:
                return above;
        }
    }

    public int beside(int year, long least, long most) {
        if (!isYear(year) || !isWithin(least, 0, MOST_COUNTED) || !isWithin(most, least, MOST_COUNTED)) {
            return BAD;
        }
        world.leastCounted[year] = least;
        world.mostCounted[year] = most;
        world.counted |= 1 << year;
        return 1;
    }

    public int fights() {
        int fighting = 0;
        for (int year = 0; year < YEARS; year++) {
            if ((world.counted >> year & 1) == 1 && world.isFighting(year)) {
                fighting |= 1 << year;
            }
        }
        return fighting;
    }

    public long fall(int from, int to, int what) {
        if (!isYear(from) || !isYear(to) || from == to || !isWithin(what, 0, 2)) {
            return BAD_BELOW;
        }
        long first = world.sumSworn(from, from);
        long byOtherRules = world.sumSworn(from, to);
        long byOtherPrices = divided(byOtherRules * world.prices[to], world.prices[from]);
        switch (what) {
            case 0:
                return byOtherRules - first;
            case 1:
                return byOtherPrices - byOtherRules;
            default:
                return world.sumSworn(to, to) - byOtherPrices;
        }
    }

    public int image() {
        kept.takeFrom(world);
        hasImage = true;
        return 1;
    }

    public int restore() {
        if (!hasImage) {
            return NONE;
        }
        world.takeFrom(kept);
        return 1;
    }

    // ---- 4 sheets

    public int book(int year, int sheet, int lane, int i) {
        if (!isYear(year) || !isSheet(sheet) || !isLane(lane)) {
            return BAD;
        }
        int n = world.howManyInBook(year);
        int refusal = sheets.refusal(sheet, lane, i, n);
        if (refusal != 0) {
            return refusal;
        }
        int place = i;
        for (int will = 0; will < world.wills.size; will++) {
            if (world.wills.year[will] == year && world.isInBook(will, year)) {
                sheets.put(sheet, place, world.sworn(will, year));
                place++;
            }
        }
        return n;
    }

    public int crowds(int sheet, int lane, int i) {
        if (!isSheet(sheet) || !isLane(lane)) {
            return BAD;
        }
        int refusal = sheets.refusal(sheet, lane, i, YEARS);
        if (refusal != 0) {
            return refusal;
        }
        for (int year = 0; year < YEARS; year++) {
            if (!isWithin(sheets.at(sheet, i + year), 1, MOST_PEOPLE)) {
                return NOT;
            }
        }
        for (int year = 0; year < YEARS; year++) {
            world.people[year] = sheets.at(sheet, i + year);
        }
        return YEARS;
    }

    public int sheet(int sheet, int lane, int n) {
        if (!isSheet(sheet) || !isLane(lane) || n > MOST_ITEMS) {
            return BAD;
        }
        if (n < 0) {
            return SIZE;
        }
        sheets.hold(sheet, lane, n);
        return n;
    }

    public int drop(int sheet) {
        if (!isSheet(sheet)) {
            return BAD;
        }
        if (!sheets.holdsRow(sheet)) {
            return NULL;
        }
        int had = sheets.size[sheet];
        sheets.holdNothing(sheet);
        return had;
    }

    public int item(int sheet, int lane, int i, int v) {
        if (!isSheet(sheet) || !isLane(lane)) {
            return BAD;
        }
        int refusal = sheets.refusal(sheet, lane, i, 1);
        if (refusal != 0) {
            return refusal;
        }
        sheets.put(sheet, i, v);
        return 1;
    }

    public int copy(int from, int i, int to, int j, int n) {
        if (!isSheet(from) || !isSheet(to)) {
            return BAD;
        }
        if (!sheets.holdsRow(from) || !sheets.holdsRow(to)) {
            return NULL;
        }
        if (sheets.lane[from] != sheets.lane[to]) {
            return CAST;
        }
        if (!sheets.hasItems(from, i, n) || !sheets.hasItems(to, j, n)) {
            return INDEX;
        }
        sheets.move(from, i, to, j, n);
        return n;
    }

    // ---- what a number may be

    private static boolean isWithin(long v, long least, long most) {
        return least <= v && v <= most;
    }

    private static boolean isYear(int year) {
        return isWithin(year, 0, YEARS - 1);
    }

    private static boolean isTop(int q) {
        return isWithin(q, 1, 1000);
    }

    private static boolean isSheet(int sheet) {
        return isWithin(sheet, 0, SHEETS - 1);
    }

    private static boolean isLane(int lane) {
        return isWithin(lane, 0, 2);
    }

    // ---- sums

    private static int byteOf(long w, int place) {
        return (int) (w >>> 8 * place & 255);
    }

    private static int noneAsZero(int parts) {
        return parts == NONE ? 0 : parts;
    }

    private static long divided(long above, long below) {
        return below == 0 ? 0 : above / below;
    }

    /** PARTS of what a TOP has, which counts tenths of what the sum of all counts. */
    private static int parts(long top, long all) {
        return (int) divided(top * 10000, all);
    }

    private static long commonDivisor(long a, long b) {
        long greater = a;
        long smaller = b;
        // Euclid's way ends within 93 steps for numbers of 63 bits.
        for (int i = 0; i < 100 && smaller != 0; i++) {
            long left = greater % smaller;
            greater = smaller;
            smaller = left;
        }
        return greater;
    }

    /** RULES of all YEARS. */
    private static final class Laws {
        final int[] floor = new int[YEARS];
        final int[] line = new int[YEARS];
        final int[] keen = new int[YEARS];
        final int[] marks = new int[YEARS];

        Laws() {
            for (int year = 0; year < YEARS; year++) {
                marks[year] = FIRST_MARKS;
            }
        }

        void takeFrom(Laws other) {
            System.arraycopy(other.floor, 0, floor, 0, YEARS);
            System.arraycopy(other.line, 0, line, 0, YEARS);
            System.arraycopy(other.keen, 0, keen, 0, YEARS);
            System.arraycopy(other.marks, 0, marks, 0, YEARS);
        }

        void changeFrom(int firstYear, int newFloor, int newLine, int newKeen, int newMarks) {
            for (int year = firstYear; year < YEARS; year++) {
                floor[year] = newFloor;
                line[year] = newLine;
                keen[year] = newKeen;
                marks[year] = newMarks;
            }
        }

        int greatestKeen(int years) {
            int greatest = 0;
            for (int year = 0; year < YEARS; year++) {
                if ((years >> year & 1) == 1 && line[year] > 0) {
                    greatest = Math.max(greatest, keen[year]);
                }
            }
            return greatest;
        }
    }

    /** WILLS, as they came. */
    private static final class Wills {
        int size;
        final int[] year = new int[MOST_WILLS];
        final int[] age = new int[MOST_WILLS];
        final int[] sex = new int[MOST_WILLS];
        /** Money, land, gifts, trusts of the first WILL, then of the next. */
        final int[] had = new int[MOST_WILLS * THINGS];

        boolean has(int will) {
            return will >= 0 && will < size;
        }

        boolean hasRoomFor(int n) {
            return n <= MOST_WILLS - size;
        }

        void add(int itsYear, int itsAge, int itsSex, int money) {
            if (!hasRoomFor(1)) {
                return;
            }
            year[size] = itsYear;
            age[size] = itsAge;
            sex[size] = itsSex;
            had[size * THINGS] = money;
            // A burnt WILL may have left something in this place.
            for (int what = 1; what < THINGS; what++) {
                had[size * THINGS + what] = 0;
            }
            size++;
        }

        void addAll(Wills others) {
            if (hasRoomFor(others.size)) {
                move(others, 0, size, others.size);
                size += others.size;
            }
        }

        void removeOne(int will) {
            if (has(will)) {
                move(this, will + 1, will, size - will - 1);
                size--;
            }
        }

        void takeFrom(Wills other) {
            move(other, 0, 0, other.size);
            size = other.size;
        }

        private void move(Wills other, int from, int to, int n) {
            System.arraycopy(other.year, from, year, to, n);
            System.arraycopy(other.age, from, age, to, n);
            System.arraycopy(other.sex, from, sex, to, n);
            System.arraycopy(other.had, from * THINGS, had, to * THINGS, n * THINGS);
        }
    }

    /** All that an IMAGE keeps. In its methods, by is the YEAR whose RULES hold. */
    private static final class World {
        final int[] lives = new int[AGES];
        int riches = 99999;
        int more;
        final Laws laws = new Laws();
        final Wills wills = new Wills();
        final int[] people = new int[YEARS];
        final int[] prices = new int[YEARS];
        /** The YEARS that have COUNTS beside, as a set. */
        int counted;
        final long[] leastCounted = new long[YEARS];
        final long[] mostCounted = new long[YEARS];

        World() {
            for (int age = 0; age < AGES; age++) {
                lives[age] = 1;
            }
            for (int year = 0; year < YEARS; year++) {
                people[year] = 1000;
                prices[year] = 100;
            }
        }

        void takeFrom(World other) {
            System.arraycopy(other.lives, 0, lives, 0, AGES);
            riches = other.riches;
            more = other.more;
            laws.takeFrom(other.laws);
            wills.takeFrom(other.wills);
            System.arraycopy(other.people, 0, people, 0, YEARS);
            System.arraycopy(other.prices, 0, prices, 0, YEARS);
            counted = other.counted;
            System.arraycopy(other.leastCounted, 0, leastCounted, 0, YEARS);
            System.arraycopy(other.mostCounted, 0, mostCounted, 0, YEARS);
        }

        int seen(int will, int by) {
            int marks = laws.marks[by];
            if (wills.sex[will] == 1 && (marks & MARK_W) == 0) {
                return 0;
            }
            int sum = wills.had[will * THINGS];
            for (int what = 1; what < THINGS; what++) {
                if ((marks >> what - 1 & 1) == 1) {
                    sum += wills.had[will * THINGS + what];
                }
            }
            return sum;
        }

        int sworn(int will, int by) {
            int seen = seen(will, by);
            int line = laws.line[by];
            return line > 0 && seen > line && seen - line <= laws.keen[by] ? line : seen;
        }

        boolean isInBook(int will, int by) {
            int sworn = sworn(will, by);
            return sworn > 0 && sworn >= laws.floor[by];
        }

        int weight(int will, int by) {
            return (isRich(will, by) ? 100 + more : 100) * lives[wills.age[will]];
        }

        private boolean isRich(int will, int by) {
            return sworn(will, by) >= riches;
        }

        int kind(int will) {
            int year = wills.year[will];
            if (!isInBook(will, year)) {
                return 1;
            }
            if (sworn(will, year) != seen(will, year)) {
                return 2;
            }
            return isRich(will, year) ? 3 : 0;
        }

        int howManyOfKind(int kind) {
            int n = 0;
            for (int will = 0; will < wills.size; will++) {
                if (kind(will) == kind) {
                    n++;
                }
            }
            return n;
        }

        int howManyInBook(int year) {
            int n = 0;
            for (int will = 0; will < wills.size; will++) {
                if (wills.year[will] == year && isInBook(will, year)) {
                    n++;
                }
            }
            return n;
        }

        /** WILLS that swear from so much to so much more than the LINE; in THE BOOK or not, as the document names no book here. */
        int howManyNearLine(int years, int from, int to) {
            int n = 0;
            for (int will = 0; will < wills.size; will++) {
                int year = wills.year[will];
                int line = laws.line[year];
                if ((years >> year & 1) == 1 && line > 0 && isWithin(sworn(will, year) - line, from, to)) {
                    n++;
                }
            }
            return n;
        }

        long sumSworn(int year, int by) {
            long sum = 0;
            for (int will = 0; will < wills.size; will++) {
                if (wills.year[will] == year && isInBook(will, by)) {
                    sum += (long) sworn(will, by) * weight(will, by);
                }
            }
            return sum;
        }

        long sumUnseen(int year) {
            long sum = 0;
            for (int will = 0; will < wills.size; will++) {
                if (wills.year[will] == year) {
                    int weight = isInBook(will, year) ? weight(will, year) : 100 * lives[wills.age[will]];
                    sum += (long) (allHad(will) - sworn(will, year)) * weight;
                }
            }
            return sum;
        }

        private int allHad(int will) {
            int sum = 0;
            for (int what = 0; what < THINGS; what++) {
                sum += wills.had[will * THINGS + what];
            }
            return sum;
        }

        boolean isFighting(int year) {
            long total = sumSworn(year, year);
            return mostCounted[year] < total || leastCounted[year] > total + sumUnseen(year);
        }

        /** How many tenths of hundredths a TOP has room for: its fraction needs no less. */
        long topRoom(int year, int q) {
            return (long) q * people[year];
        }
    }

    /** THE LIVING of one YEAR, those who have the most first. */
    private static final class Living {
        int size;
        final int[] number = new int[MOST_WILLS];
        final int[] sworn = new int[MOST_WILLS];
        final int[] weight = new int[MOST_WILLS];

        void gather(World world, int year, int by) {
            size = 0;
            for (int will = 0; will < world.wills.size; will++) {
                if (world.wills.year[will] == year && world.isInBook(will, by)) {
                    insert(will, world.sworn(will, by), world.weight(will, by));
                }
            }
        }

        private void insert(int will, int itsSworn, int itsWeight) {
            if (size >= MOST_WILLS) {
                return;
            }
            int place = size;
            while (place > 0 && sworn[place - 1] < itsSworn) {
                number[place] = number[place - 1];
                sworn[place] = sworn[place - 1];
                weight[place] = weight[place - 1];
                place--;
            }
            number[place] = will;
            sworn[place] = itsSworn;
            weight[place] = itsWeight;
            size++;
        }

        long sumAll(int without) {
            long sum = 0;
            for (int i = 0; i < size; i++) {
                if (number[i] != without) {
                    sum += (long) sworn[i] * weight[i];
                }
            }
            return sum;
        }

        /** What the TOP has, in tenths, so that it is whole. */
        long sumTop(long room, int without) {
            long sum = 0;
            long left = room;
            for (int i = 0; i < size; i++) {
                if (number[i] != without) {
                    long taken = Math.min(10L * weight[i], left);
                    sum += sworn[i] * taken;
                    left -= taken;
                }
            }
            return sum;
        }

        /** PARTS, or NONE. */
        int partsOfTop(long room, int without) {
            long all = sumAll(without);
            return all == 0 ? NONE : parts(sumTop(room, without), all);
        }
    }

    /** THE TAPE. A read that fails leaves its place at the byte that can't stand there. */
    private static final class Tape {
        private static final int END = -1;
        private static final int FAIL = -1;
        private static final char[] MARK_SIGNS = {'L', 'G', 'T', 'W'};

        int size;
        private int place;
        private final int[] bytes = new int[MOST_BYTES];

        boolean hasRoomFor(int n) {
            return n <= MOST_BYTES - size;
        }

        void add(int sign) {
            if (hasRoomFor(1)) {
                bytes[size] = sign;
                size++;
            }
        }

        void clear() {
            size = 0;
        }

        int readLaws(Laws laws) {
            place = 0;
            for (int n = 1; n <= CLAUSES; n++) {
                if (!readLaw(laws)) {
                    return fault();
                }
                if (next() == END) {
                    return n;
                }
                if (n == CLAUSES || !takes(';')) {
                    return fault();
                }
            }
            return fault();
        }

        int readWills(Wills wills) {
            place = 0;
            for (int n = 1; n <= CLAUSES; n++) {
                if (!readWill(wills)) {
                    return fault();
                }
                if (next() == END) {
                    return n;
                }
                if (n == CLAUSES || !takes(';')) {
                    return fault();
                }
            }
            return fault();
        }

        private int fault() {
            return -20 - place;
        }

        private boolean readLaw(Laws laws) {
            int year = readDigit(YEARS - 1);
            if (year == FAIL || !takes(':')) {
                return false;
            }
            int floor = readPerhaps('f', MOST_HAD);
            if (floor == FAIL) {
                return false;
            }
            int line = readPerhaps('l', MOST_HAD);
            if (line == FAIL) {
                return false;
            }
            int keen = readPerhaps('h', MOST_KEEN);
            if (keen == FAIL) {
                return false;
            }
            int marks = 0;
            for (int i = 0; i < MARKS; i++) {
                if (takes(MARK_SIGNS[i])) {
                    marks |= 1 << i;
                }
            }
            laws.changeFrom(year, floor, line, keen, marks);
            return true;
        }

        private boolean readWill(Wills wills) {
            int year = readDigit(YEARS - 1);
            if (year == FAIL) {
                return false;
            }
            int age = readDigit(AGES - 1);
            if (age == FAIL) {
                return false;
            }
            boolean isMan = takes('m');
            if (!isMan && !takes('w')) {
                return false;
            }
            int money = readNumber(MOST_HAD);
            if (money == FAIL) {
                return false;
            }
            wills.add(year, age, isMan ? 0 : 1, money);
            return readThings(wills);
        }

        private boolean readThings(Wills wills) {
            int land = readPerhaps('l', MOST_HAD);
            if (land == FAIL) {
                return false;
            }
            int gifts = readPerhaps('g', MOST_HAD);
            if (gifts == FAIL) {
                return false;
            }
            int trusts = readPerhaps('t', MOST_HAD);
            if (trusts == FAIL || wills.size == 0) {
                return false;
            }
            int first = (wills.size - 1) * THINGS;
            wills.had[first + 1] = land;
            wills.had[first + 2] = gifts;
            wills.had[first + 3] = trusts;
            return true;
        }

        private int next() {
            while (place < size && bytes[place] == ' ') {
                place++;
            }
            return place < size ? bytes[place] : END;
        }

        private boolean takes(char sign) {
            if (next() != sign) {
                return false;
            }
            place++;
            return true;
        }

        private int readDigit(int most) {
            int digit = next() - '0';
            if (!isWithin(digit, 0, most)) {
                return FAIL;
            }
            place++;
            return digit;
        }

        /** A number behind a sign; 0 if the sign is not there. */
        private int readPerhaps(char sign, int most) {
            return takes(sign) ? readNumber(most) : 0;
        }

        private int readNumber(int most) {
            if (!isWithin(next(), '0', '9')) {
                return FAIL;
            }
            int first = place;
            int value = 0;
            while (place < size && isWithin(bytes[place], '0', '9')) {
                // Beyond the most any number may be, how far beyond is all one: this keeps it from wrapping round.
                value = Math.min(value * 10 + bytes[place] - '0', MOST_HAD + 1);
                place++;
            }
            if (value > most) {
                place = first;
                return FAIL;
            }
            return value;
        }
    }

    /** SHEETS; an item is kept as the int that its LANE makes of it. */
    private static final class Sheets {
        private static final int NOTHING = -1;

        final int[] lane = new int[SHEETS];
        final int[] size = new int[SHEETS];
        private final int[] items = new int[SHEETS * MOST_ITEMS];

        Sheets() {
            for (int sheet = 0; sheet < SHEETS; sheet++) {
                lane[sheet] = NOTHING;
            }
        }

        boolean holdsRow(int sheet) {
            return lane[sheet] != NOTHING;
        }

        void hold(int sheet, int itsLane, int n) {
            lane[sheet] = itsLane;
            size[sheet] = n;
            for (int i = 0; i < MOST_ITEMS; i++) {
                items[sheet * MOST_ITEMS + i] = 0;
            }
        }

        void holdNothing(int sheet) {
            lane[sheet] = NOTHING;
            size[sheet] = 0;
        }

        boolean hasItems(int sheet, int first, int n) {
            return first >= 0 && n >= 0 && first <= size[sheet] - n;
        }

        /** NULL, CAST, INDEX, or 0 if these items are there to be taken so. */
        int refusal(int sheet, int asLane, int first, int n) {
            if (!holdsRow(sheet)) {
                return NULL;
            }
            if (lane[sheet] != asLane) {
                return CAST;
            }
            return hasItems(sheet, first, n) ? 0 : INDEX;
        }

        int at(int sheet, int i) {
            return hasItems(sheet, i, 1) ? items[sheet * MOST_ITEMS + i] : 0;
        }

        void put(int sheet, int i, int v) {
            if (hasItems(sheet, i, 1)) {
                items[sheet * MOST_ITEMS + i] = narrowed(lane[sheet], v);
            }
        }

        private static int narrowed(int lane, int v) {
            switch (lane) {
                case 0:
                    return (byte) v;
                case 1:
                    return (short) v;
                default:
                    return v;
            }
        }

        /** One array holds all rows, so that arraycopy takes all items ahead even within one SHEET. */
        void move(int from, int i, int to, int j, int n) {
            System.arraycopy(items, from * MOST_ITEMS + i, items, to * MOST_ITEMS + j, n);
        }
    }
}
