import java.math.BigInteger;
import java.util.ArrayList;
import java.util.Comparator;
import java.util.List;
import java.util.TreeMap;
import java.util.regex.Matcher;
import java.util.regex.Pattern;

/** The document told a second time, with fractions and patterns of the Java library, for ModelTest. */
final class Model {
    private static final long BAD_BELOW = -1000000000000000001L;
    private static final Pattern LAWS = clauses(" *[0-7] *: *(?:f *[0-9]+ *)?(?:l *[0-9]+ *)?(?:h *[0-9]+ *)?(?:L *)?(?:G *)?(?:T *)?(?:W *)?");
    private static final Pattern WILLS = clauses(" *[0-7] *[0-5] *[mw] *[0-9]+ *(?:l *[0-9]+ *)?(?:g *[0-9]+ *)?(?:t *[0-9]+ *)?");
    private static final Pattern NUMBERED = Pattern.compile("([a-z]) *([0-9]+)");

    /** A fraction of whole numbers, the lower one above 0. */
    private record Part(BigInteger above, BigInteger below) {
        static final Part ZERO = of(0);

        static Part of(long v) {
            return new Part(BigInteger.valueOf(v), BigInteger.ONE);
        }

        Part plus(Part o) {
            return new Part(above.multiply(o.below).add(o.above.multiply(below)), below.multiply(o.below)).lowest();
        }

        Part times(long v) {
            return new Part(above.multiply(BigInteger.valueOf(v)), below).lowest();
        }

        Part by(Part o) {
            return new Part(above.multiply(o.below), below.multiply(o.above)).lowest();
        }

        Part lowest() {
            BigInteger common = above.gcd(below);
            return new Part(above.divide(common), below.divide(common));
        }

        Part lesser(Part o) {
            return above.multiply(o.below).compareTo(o.above.multiply(below)) <= 0 ? this : o;
        }

        long cut() {
            return above.divide(below).longValueExact();
        }
    }

    private record Law(int floor, int line, int keen, String marks) {
        int bits() {
            int bits = 0;
            for (char mark : marks.toCharArray()) {
                bits |= 1 << "LGTW".indexOf(mark);
            }
            return bits;
        }
    }

    private record Range(long least, long most) {
    }

    record Will(int year, int age, int sex, int money, int land, int gifts, int trusts) {
        int all() {
            return money + land + gifts + trusts;
        }

        int had(int what) {
            return new int[] {money, land, gifts, trusts}[what];
        }

        Will with(int what, int v) {
            return new Will(year, age, sex, what == 0 ? v : money, what == 1 ? v : land, what == 2 ? v : gifts, what == 3 ? v : trusts);
        }
    }

    List<Will> wills = new ArrayList<>();
    private List<Law> laws = new ArrayList<>();
    private int[] lives = {1, 1, 1, 1, 1, 1};
    private int riches = 99999;
    private int more = 0;
    private int[] people = {1000, 1000, 1000, 1000, 1000, 1000, 1000, 1000};
    private int[] prices = {100, 100, 100, 100, 100, 100, 100, 100};
    private TreeMap<Integer, Range> counts = new TreeMap<>();
    private Model kept;
    String tape = "";
    final int[] lanes = {-1, -1, -1, -1};
    private final List<List<Integer>> rows = new ArrayList<>(List.of(List.of(), List.of(), List.of(), List.of()));

    Model() {
        for (int year = 0; year < 8; year++) {
            laws.add(new Law(0, 0, 0, "LW"));
        }
    }

    private static Pattern clauses(String clause) {
        return Pattern.compile("(?:" + clause + ")(?:;(?:" + clause + ")){0,7}");
    }

    private static boolean not(long v, long least, long most) {
        return v < least || v > most;
    }

    private static boolean noYear(int year) {
        return not(year, 0, 7);
    }

    // ---- 1

    int lives(int age, int v) {
        if (not(age, 0, 5) || not(v, 1, 400)) {
            return -1;
        }
        int was = lives[age];
        lives[age] = v;
        return was;
    }

    int set(int what, int v) {
        if (not(what, 0, 1) || not(v, 0, what == 0 ? 99999 : 100)) {
            return -1;
        }
        int was = what == 0 ? riches : more;
        if (what == 0) {
            riches = v;
        } else {
            more = v;
        }
        return was;
    }

    int will(int year, int age, int sex, int money) {
        if (noYear(year) || not(age, 0, 5) || not(sex, 0, 1) || not(money, 0, 9999)) {
            return -1;
        }
        if (wills.size() == 24) {
            return -3;
        }
        wills.add(new Will(year, age, sex, money, 0, 0, 0));
        return wills.size() - 1;
    }

    int had(int will, int what, int v) {
        if (not(will, 0, wills.size() - 1) || not(what, 0, 3) || not(v, 0, 9999)) {
            return -1;
        }
        int was = wills.get(will).had(what);
        wills.set(will, wills.get(will).with(what, v));
        return was;
    }

    int told(int will, int what) {
        if (not(will, 0, wills.size() - 1) || not(what, 0, 7)) {
            return -1;
        }
        Will w = wills.get(will);
        Law law = laws.get(w.year);
        return new int[] {w.year, w.age, w.sex, seen(w, law), sworn(w, law), inBook(w, law) ? 1 : 0, weight(w, law), kind(w)}[what];
    }

    int burn(int will) {
        if (not(will, 0, wills.size() - 1)) {
            return -1;
        }
        wills.remove(will);
        return wills.size();
    }

    int type(long w, int n) {
        if (not(n, 1, 8)) {
            return -1;
        }
        String come = "";
        for (int i = 0; i < n; i++) {
            int sign = (int) (w >> 8 * i) & 0xff;
            if (not(sign, 32, 126)) {
                return -1;
            }
            come = (char) sign + come;
        }
        if (tape.length() + n > 100) {
            return -3;
        }
        tape += come;
        return tape.length();
    }

    /** The place of the first byte that can't stand there, or -1. */
    private static int fault(Pattern pattern, String text) {
        int structure = -1;
        for (int end = 1; end <= text.length() && structure < 0; end++) {
            Matcher m = pattern.matcher(text.substring(0, end));
            if (!m.matches() && !m.hitEnd()) {
                structure = end - 1;
            }
        }
        if (structure < 0 && !pattern.matcher(text).matches()) {
            structure = text.length();
        }
        Matcher numbers = NUMBERED.matcher(structure < 0 ? text : text.substring(0, structure));
        while (numbers.find()) {
            BigInteger most = BigInteger.valueOf(numbers.group(1).equals("h") ? 999 : 9999);
            // A number that goes on behind the fault can't be: the fault would be within it.
            if (new BigInteger(numbers.group(2)).compareTo(most) > 0) {
                return numbers.start(2);
            }
        }
        return structure;
    }

    private static int numberOf(String clause, String sign) {
        Matcher m = Pattern.compile(sign + "([0-9]+)").matcher(clause);
        return m.find() ? Integer.parseInt(m.group(1)) : 0;
    }

    int rules() {
        String text = tape;
        tape = "";
        int fault = fault(LAWS, text);
        if (fault >= 0) {
            return -20 - fault;
        }
        String[] clauses = text.replace(" ", "").split(";");
        for (String clause : clauses) {
            Law law = new Law(numberOf(clause, "f"), numberOf(clause, "l"), numberOf(clause, "h"), clause.replaceAll("[^A-Z]", ""));
            for (int year = clause.charAt(0) - '0'; year < 8; year++) {
                laws.set(year, law);
            }
        }
        return clauses.length;
    }

    int rule(int year, int what) {
        if (noYear(year) || not(what, 0, 3)) {
            return -1;
        }
        Law law = laws.get(year);
        return new int[] {law.floor, law.line, law.keen, law.bits()}[what];
    }

    int willsOfTape() {
        String text = tape;
        tape = "";
        int fault = fault(WILLS, text);
        if (fault >= 0) {
            return -20 - fault;
        }
        String[] clauses = text.replace(" ", "").split(";");
        if (wills.size() + clauses.length > 24) {
            return -3;
        }
        for (String c : clauses) {
            int sex = c.charAt(2) == 'w' ? 1 : 0;
            wills.add(new Will(c.charAt(0) - '0', c.charAt(1) - '0', sex, numberOf(c, "[mw]"), numberOf(c, "l"), numberOf(c, "g"), numberOf(c, "t")));
        }
        return clauses.length;
    }

    int draw(long seed, int year, int n) {
        if (noYear(year) || not(n, 1, 24)) {
            return -1;
        }
        if (wills.size() + n > 24) {
            return -3;
        }
        BigInteger machine = BigInteger.ONE.shiftLeft(64);
        BigInteger x = BigInteger.valueOf(seed).mod(machine);
        for (int i = 0; i < n; i++) {
            x = x.multiply(new BigInteger("6364136223846793005")).add(new BigInteger("1442695040888963407")).mod(machine);
            long r = x.shiftRight(33).longValueExact();
            long left = (r / 12) % 10000;
            wills.add(new Will(year, (int) (r % 6), (r / 6) % 2 == 0 ? 0 : 1, (int) (left * left / 10000), 0, 0, 0));
        }
        return wills.size();
    }

    int people(int year, int what, int v) {
        if (noYear(year) || not(what, 0, 1) || not(v, 1, what == 0 ? 999999 : 999)) {
            return -1;
        }
        int[] row = what == 0 ? people : prices;
        int was = row[year];
        row[year] = v;
        return was;
    }

    int count(int what) {
        if (not(what, 0, 5)) {
            return -1;
        }
        if (what == 0) {
            return wills.size();
        }
        if (what == 5) {
            return counts.size();
        }
        int n = 0;
        for (Will w : wills) {
            n += kind(w) == what ? 1 : 0;
        }
        if (what == 4) {
            for (int year = 0; year < 8; year++) {
                n += parts(living(year, year), year, 1) >= 0 ? 1 : 0;
            }
        }
        return n;
    }

    private int seen(Will w, Law law) {
        if (w.sex == 1 && law.marks.indexOf('W') < 0) {
            return 0;
        }
        int seen = w.money;
        seen += law.marks.indexOf('L') < 0 ? 0 : w.land;
        seen += law.marks.indexOf('G') < 0 ? 0 : w.gifts;
        seen += law.marks.indexOf('T') < 0 ? 0 : w.trusts;
        return seen;
    }

    private int sworn(Will w, Law law) {
        int seen = seen(w, law);
        boolean rounded = law.line > 0 && seen >= law.line + 1 && seen <= law.line + law.keen;
        return rounded ? law.line : seen;
    }

    private boolean inBook(Will w, Law law) {
        return sworn(w, law) >= Math.max(1, law.floor);
    }

    private int weight(Will w, Law law) {
        int weight = 100 * lives[w.age];
        return sworn(w, law) >= riches ? weight + more * lives[w.age] : weight;
    }

    private int kind(Will w) {
        Law law = laws.get(w.year);
        return !inBook(w, law) ? 1 : sworn(w, law) != seen(w, law) ? 2 : sworn(w, law) >= riches ? 3 : 0;
    }

    // ---- 2

    private record One(int will, int sworn, int weight) {
    }

    private List<One> living(int year, int by) {
        List<One> all = new ArrayList<>();
        Law law = laws.get(by);
        for (int i = 0; i < wills.size(); i++) {
            Will w = wills.get(i);
            if (w.year == year && inBook(w, law)) {
                all.add(new One(i, sworn(w, law), weight(w, law)));
            }
        }
        return all;
    }

    private static long total(List<One> living) {
        return living.stream().mapToLong(o -> (long) o.sworn * o.weight).sum();
    }

    private Part top(List<One> living, int year, int q) {
        Part left = Part.of(q).times(people[year]).by(Part.of(10));
        Part sum = Part.ZERO;
        for (One o : living.stream().sorted(Comparator.comparingInt((One o) -> -o.sworn)).toList()) {
            Part taken = left.lesser(Part.of(o.weight));
            sum = sum.plus(taken.times(o.sworn));
            left = left.plus(taken.times(-1));
        }
        return sum;
    }

    /** PARTS, or -4. */
    private int parts(List<One> living, int year, int q) {
        long total = total(living);
        return total == 0 ? -4 : (int) top(living, year, q).by(Part.of(total)).times(100000).cut();
    }

    private int partsOrNought(List<One> living, int year, int q) {
        return Math.max(0, parts(living, year, q));
    }

    private long unseen(int year) {
        long sum = 0;
        Law law = laws.get(year);
        for (Will w : wills) {
            if (w.year == year) {
                sum += (long) (w.all() - sworn(w, law)) * (inBook(w, law) ? weight(w, law) : 100 * lives[w.age]);
            }
        }
        return sum;
    }

    long total(int year, int what) {
        if (noYear(year) || not(what, 0, 1)) {
            return -1;
        }
        return what == 0 ? total(living(year, year)) : unseen(year);
    }

    private static boolean badTop(int year, int q, int what, int most) {
        return noYear(year) || not(q, 1, 1000) || not(what, 0, most);
    }

    long share(int year, int q, int what) {
        if (badTop(year, q, what, 2)) {
            return -1;
        }
        List<One> living = living(year, year);
        if (total(living) == 0) {
            return -4;
        }
        Part share = top(living, year, q).by(Part.of(total(living))).lowest();
        return what == 0 ? share.above.longValueExact() : what == 1 ? share.below.longValueExact() : share.times(100000).cut();
    }

    /** PARTS without each of these, in their order. */
    private List<Integer> without(List<One> living, int year, int q) {
        List<Integer> parts = new ArrayList<>();
        for (One o : living) {
            parts.add(partsOrNought(living.stream().filter(p -> p.will != o.will).toList(), year, q));
        }
        return parts;
    }

    int maker(int year, int q, int what) {
        if (badTop(year, q, what, 1)) {
            return -1;
        }
        List<One> living = living(year, year);
        int parts = parts(living, year, q);
        if (parts < 0) {
            return -4;
        }
        List<Integer> without = without(living, year, q);
        int most = without.stream().mapToInt(p -> Math.abs(p - parts)).max().getAsInt();
        for (int i = 0; i < without.size(); i++) {
            if (Math.abs(without.get(i) - parts) == most) {
                return what == 0 ? living.get(i).will : without.get(i);
            }
        }
        throw new IllegalStateException();
    }

    int span(int year, int q, int what) {
        if (badTop(year, q, what, 1)) {
            return -1;
        }
        List<One> living = living(year, year);
        if (parts(living, year, q) < 0) {
            return -4;
        }
        List<Integer> all = without(living, year, q);
        all.add(parts(living, year, q));
        return what == 0 ? all.stream().min(Integer::compare).get() : all.stream().max(Integer::compare).get();
    }

    int smooth(int year, int q, int k) {
        if (badTop(year, q, k, 3)) {
            return -1;
        }
        Part tops = Part.ZERO;
        long totals = 0;
        for (int y = 0; y < 8; y++) {
            if (Math.abs(y - year) <= k) {
                tops = tops.plus(top(living(y, y), y, q));
                totals += total(living(y, y));
            }
        }
        return totals == 0 ? -4 : (int) tops.by(Part.of(totals)).times(100000).cut();
    }

    int jump(int q, int what) {
        if (badTop(0, q, what, 1)) {
            return -1;
        }
        TreeMap<Integer, Integer> jumps = new TreeMap<>();
        for (int year = 0; year < 7; year++) {
            int a = parts(living(year, year), year, q);
            int b = parts(living(year + 1, year + 1), year + 1, q);
            if (a >= 0 && b >= 0) {
                jumps.putIfAbsent(Math.abs(a - b), year);
            }
        }
        return jumps.isEmpty() ? -4 : what == 0 ? jumps.lastEntry().getValue() : jumps.lastKey();
    }

    // ---- 3

    long alone(int year, int of, int q) {
        if (noYear(year) || noYear(of) || not(q, 1, 1000)) {
            return BAD_BELOW;
        }
        return partsOrNought(living(year, of), year, q) - partsOrNought(living(year, year), year, q);
    }

    int bounds(int year, int q, int what) {
        if (badTop(year, q, what, 1)) {
            return -1;
        }
        List<One> living = living(year, year);
        long unseen = unseen(year);
        if (total(living) + unseen == 0) {
            return -4;
        }
        Part has = top(living, year, q).plus(Part.of(what == 0 ? 0 : unseen));
        return (int) has.by(Part.of(total(living) + unseen)).times(100000).cut();
    }

    int heap(int years, int w, int what) {
        if (not(years, 1, 255) || not(w, 1, 999) || not(what, 0, 3)) {
            return -1;
        }
        int below = 0;
        int above = 0;
        int keen = 0;
        for (int year = 0; year < 8; year++) {
            Law law = laws.get(year);
            if ((years & 1 << year) == 0 || law.line == 0) {
                continue;
            }
            keen = Math.max(keen, law.keen);
            for (Will will : wills) {
                int sworn = sworn(will, law);
                below += will.year == year && sworn >= law.line - w && sworn <= law.line ? 1 : 0;
                above += will.year == year && sworn >= law.line + 1 && sworn <= law.line + w ? 1 : 0;
            }
        }
        int heap = below > above ? below - above : 0;
        return new int[] {heap, heap * keen, below, above}[what];
    }

    int beside(int year, long least, long most) {
        if (noYear(year) || not(least, 0, 1000000000000000L) || not(most, 0, 1000000000000000L) || least > most) {
            return -1;
        }
        counts.put(year, new Range(least, most));
        return 1;
    }

    int fights() {
        int set = 0;
        for (int year : counts.keySet()) {
            long total = total(year, 0);
            long first = Math.max(total, counts.get(year).least);
            long last = Math.min(total + unseen(year), counts.get(year).most);
            set += first > last ? 1 << year : 0;
        }
        return set;
    }

    long fall(int from, int to, int what) {
        if (noYear(from) || noYear(to) || from == to || not(what, 0, 2)) {
            return BAD_BELOW;
        }
        long byRules = total(living(from, to)) - total(from, 0);
        long byPrices = Part.of(total(living(from, to))).times(prices[to]).by(Part.of(prices[from])).cut() - total(living(from, to));
        return what == 0 ? byRules : what == 1 ? byPrices : total(to, 0) - byRules - byPrices - total(from, 0);
    }

    private static void keep(Model from, Model to) {
        to.wills = new ArrayList<>(from.wills);
        to.laws = new ArrayList<>(from.laws);
        to.lives = from.lives.clone();
        to.riches = from.riches;
        to.more = from.more;
        to.people = from.people.clone();
        to.prices = from.prices.clone();
        to.counts = new TreeMap<>(from.counts);
    }

    int image() {
        kept = new Model();
        keep(this, kept);
        return 1;
    }

    int restore() {
        if (kept == null) {
            return -4;
        }
        keep(kept, this);
        return 1;
    }

    // ---- 4

    int itemOr(int sheet, int i) {
        return not(sheet, 0, 3) || i >= rows.get(sheet).size() ? 1 : rows.get(sheet).get(i);
    }

    private int refusal(int sheet, int lane, long i, long n) {
        if (not(sheet, 0, 3) || not(lane, 0, 2)) {
            return -1;
        }
        if (lanes[sheet] < 0) {
            return -11;
        }
        return lanes[sheet] != lane ? -12 : i < 0 || i + n > rows.get(sheet).size() ? -13 : 0;
    }

    private static int cut(int lane, int v) {
        return lane == 0 ? v << 24 >> 24 : lane == 1 ? v << 16 >> 16 : v;
    }

    int book(int year, int sheet, int lane, int i) {
        if (noYear(year)) {
            return -1;
        }
        List<One> living = living(year, year);
        int refusal = refusal(sheet, lane, i, living.size());
        if (refusal != 0) {
            return refusal;
        }
        for (int k = 0; k < living.size(); k++) {
            rows.get(sheet).set(i + k, cut(lane, living.get(k).sworn));
        }
        return living.size();
    }

    int crowds(int sheet, int lane, int i) {
        int refusal = refusal(sheet, lane, i, 8);
        if (refusal != 0) {
            return refusal;
        }
        int[] row = rows.get(sheet).subList(i, i + 8).stream().mapToInt(Integer::intValue).toArray();
        for (int v : row) {
            if (not(v, 1, 999999)) {
                return -2;
            }
        }
        people = row;
        return 8;
    }

    int sheet(int sheet, int lane, int n) {
        if (not(sheet, 0, 3) || not(lane, 0, 2) || n > 24) {
            return -1;
        }
        if (n < 0) {
            return -14;
        }
        lanes[sheet] = lane;
        List<Integer> row = new ArrayList<>();
        for (int i = 0; i < n; i++) {
            row.add(0);
        }
        rows.set(sheet, row);
        return n;
    }

    int drop(int sheet) {
        if (not(sheet, 0, 3)) {
            return -1;
        }
        if (lanes[sheet] < 0) {
            return -11;
        }
        lanes[sheet] = -1;
        int n = rows.get(sheet).size();
        rows.set(sheet, List.of());
        return n;
    }

    int item(int sheet, int lane, int i, int v) {
        int refusal = refusal(sheet, lane, i, 1);
        if (refusal != 0) {
            return refusal;
        }
        rows.get(sheet).set(i, cut(lane, v));
        return 1;
    }

    int copy(int from, int i, int to, int j, int n) {
        if (not(from, 0, 3) || not(to, 0, 3)) {
            return -1;
        }
        if (lanes[from] < 0 || lanes[to] < 0) {
            return -11;
        }
        if (lanes[from] != lanes[to]) {
            return -12;
        }
        if (n < 0 || refusal(from, lanes[from], i, n) != 0 || refusal(to, lanes[to], j, n) != 0) {
            return -13;
        }
        List<Integer> taken = new ArrayList<>(rows.get(from).subList(i, i + n));
        for (int k = 0; k < n; k++) {
            rows.get(to).set(j + k, taken.get(k));
        }
        return n;
    }
}
