/**
 * Every number that a call takes: the least and the most that it may be are taken, and what is beyond is refused and
 * changes nothing.
 */
public final class NumbersTest {
    private static final long BAD = -1;
    private static final long BAD_BELOW = -1000000000000000001L;
    private static final long MOST_COUNTED = 1000000000000000L;
    private static final Due DUE = new Due();

    private interface Call {
        long with(BookOfWills x, int v);
    }

    public static void main(String[] args) {
        promises2To7();
        promise8();
        promises10To14();
        promises15To20();
        promises21To23();
        promise24();
        promise26();
        promises29To34();
        DUE.end();
    }

    private static void unchanged(String call, long want, Look.Deed deed) {
        BookOfWills x = new BookOfWills();
        Worlds.some(x);
        DUE.is(call, want, deed.on(x));
        DUE.is(call + " changes nothing: 1", 1, Look.behind(Worlds::some).equals(Look.behind(Worlds::some, deed)) ? 1 : 0);
    }

    private static void taken(String call, long bad, Call with, int v) {
        BookOfWills x = new BookOfWills();
        Worlds.some(x);
        DUE.is(call + " of " + v + " is taken: 1", 1, with.with(x, v) == bad ? 0 : 1);
    }

    private static void above(String call, long bad, int most, Call with) {
        taken(call, bad, with, most);
        // Those far above would be good numbers, if only their lowest bits were looked at.
        for (int v : new int[] {most + 1, most + 2, most + 256, most + 65536, most + (1 << 30), Integer.MAX_VALUE}) {
            unchanged(call + " of " + v, bad, x -> with.with(x, v));
        }
    }

    private static void below(String call, long bad, int least, Call with) {
        taken(call, bad, with, least);
        for (int v : new int[] {least - 1, least - 2, least - 256, least - 65536, Integer.MIN_VALUE, Integer.MIN_VALUE + least}) {
            unchanged(call + " of " + v, bad, x -> with.with(x, v));
        }
    }

    private static void number(String call, int least, int most, Call with) {
        below(call, BAD, least, with);
        above(call, BAD, most, with);
    }

    private static void numberBelow(String call, int least, int most, Call with) {
        below(call, BAD_BELOW, least, with);
        above(call, BAD_BELOW, most, with);
    }

    private static void promises2To7() {
        number("lives: an AGE", 0, 5, (x, v) -> x.lives(v, 7));
        number("lives: LIVES", 1, 400, (x, v) -> x.lives(2, v));
        number("set: what", 0, 1, (x, v) -> x.set(v, 7));
        number("set: RICHES", 0, 99999, (x, v) -> x.set(0, v));
        number("set: MORE", 0, 100, (x, v) -> x.set(1, v));
        number("will: a YEAR", 0, 7, (x, v) -> x.will(v, 0, 0, 1));
        number("will: an AGE", 0, 5, (x, v) -> x.will(0, v, 0, 1));
        number("will: a man's or a woman's", 0, 1, (x, v) -> x.will(0, 0, v, 1));
        number("will: money", 0, 9999, (x, v) -> x.will(0, 0, 0, v));
        number("had: a WILL", 0, Worlds.WILLS - 1, (x, v) -> x.had(v, 1, 7));
        number("had: what", 0, 3, (x, v) -> x.had(4, v, 7));
        number("had: money", 0, 9999, (x, v) -> x.had(4, 0, v));
        number("had: land", 0, 9999, (x, v) -> x.had(4, 1, v));
        number("had: gifts", 0, 9999, (x, v) -> x.had(4, 2, v));
        number("had: trusts", 0, 9999, (x, v) -> x.had(4, 3, v));
        number("told: a WILL", 0, Worlds.WILLS - 1, (x, v) -> x.told(v, 0));
        number("told: what", 0, 7, (x, v) -> x.told(4, v));
        number("burn: a WILL", 0, Worlds.WILLS - 1, (x, v) -> x.burn(v));
    }

    private static void promise8() {
        long good = 0x2020202020202020L;
        number("type: n", 1, 8, (x, v) -> x.type(good, v));
        for (int place = 0; place < 8; place++) {
            int bits = 8 * place;
            long others = good & ~(255L << bits);
            for (int sign : new int[] {0, 1, 9, 10, 31, 127, 128, 129, 160, 254, 255}) {
                unchanged("type: byte " + sign + " at " + place, BAD, x -> x.type(others | (long) sign << bits, 8));
            }
            for (int sign = 32; sign <= 126; sign++) {
                BookOfWills x = new BookOfWills();
                DUE.is("type: byte " + sign + " at " + place, 8, x.type(others | (long) sign << bits, 8));
            }
        }
    }

    private static void promises10To14() {
        number("rule: a YEAR", 0, 7, (x, v) -> x.rule(v, 3));
        number("rule: what", 0, 3, (x, v) -> x.rule(3, v));
        number("draw: a YEAR", 0, 7, (x, v) -> x.draw(5, v, 2));
        below("draw: n", BAD, 1, (x, v) -> x.draw(5, 0, v));
        above("draw: n", BAD, 24, (x, v) -> x.draw(5, 0, v));
        number("people: a YEAR", 0, 7, (x, v) -> x.people(v, 0, 9));
        number("people: what", 0, 1, (x, v) -> x.people(0, v, 9));
        number("people: PEOPLE", 1, 999999, (x, v) -> x.people(3, 0, v));
        number("people: PRICES", 1, 999, (x, v) -> x.people(3, 1, v));
        number("count: what", 0, 5, (x, v) -> x.count(v));
    }

    private static void promises15To20() {
        number("total: a YEAR", 0, 7, (x, v) -> x.total(v, 0));
        number("total: what", 0, 1, (x, v) -> x.total(3, v));
        number("share: a YEAR", 0, 7, (x, v) -> x.share(v, 5, 0));
        number("share: q", 1, 1000, (x, v) -> x.share(3, v, 0));
        number("share: what", 0, 2, (x, v) -> x.share(3, 5, v));
        number("maker: a YEAR", 0, 7, (x, v) -> x.maker(v, 5, 0));
        number("maker: q", 1, 1000, (x, v) -> x.maker(3, v, 0));
        number("maker: what", 0, 1, (x, v) -> x.maker(3, 5, v));
        number("span: a YEAR", 0, 7, (x, v) -> x.span(v, 5, 0));
        number("span: q", 1, 1000, (x, v) -> x.span(3, v, 0));
        number("span: what", 0, 1, (x, v) -> x.span(3, 5, v));
        number("smooth: a YEAR", 0, 7, (x, v) -> x.smooth(v, 5, 0));
        number("smooth: q", 1, 1000, (x, v) -> x.smooth(3, v, 0));
        number("smooth: k", 0, 3, (x, v) -> x.smooth(3, 5, v));
        number("jump: q", 1, 1000, (x, v) -> x.jump(v, 0));
        number("jump: what", 0, 1, (x, v) -> x.jump(5, v));
    }

    private static void promises21To23() {
        numberBelow("alone: a YEAR", 0, 7, (x, v) -> x.alone(v, 1, 5));
        numberBelow("alone: another YEAR", 0, 7, (x, v) -> x.alone(3, v, 5));
        numberBelow("alone: q", 1, 1000, (x, v) -> x.alone(3, 1, v));
        number("bounds: a YEAR", 0, 7, (x, v) -> x.bounds(v, 5, 0));
        number("bounds: q", 1, 1000, (x, v) -> x.bounds(3, v, 0));
        number("bounds: what", 0, 1, (x, v) -> x.bounds(3, 5, v));
        number("heap: a set of YEARS", 1, 255, (x, v) -> x.heap(v, 5, 0));
        number("heap: w", 1, 999, (x, v) -> x.heap(9, v, 0));
        number("heap: what", 0, 3, (x, v) -> x.heap(9, 5, v));
        unchanged("heap: YEAR 8 beside others", BAD, x -> x.heap(256 | 9, 5, 0));
    }

    private static void promise24() {
        number("beside: a YEAR", 0, 7, (x, v) -> x.beside(v, 5, 6));
        long[][] good = {{0, 0}, {0, MOST_COUNTED}, {MOST_COUNTED, MOST_COUNTED}, {600, 600}, {599, 600}};
        for (long[] count : good) {
            BookOfWills x = new BookOfWills();
            DUE.is("beside: " + count[0] + " to " + count[1], 1, x.beside(3, count[0], count[1]));
        }
        long[][] bad = {{-1, 0}, {-1, -1}, {-1, 600}, {0, -1}, {0, MOST_COUNTED + 1}, {MOST_COUNTED + 1, MOST_COUNTED + 1},
            {MOST_COUNTED + 1, 0}, {MOST_COUNTED, MOST_COUNTED - 1}, {601, 600}, {1, 0}, {Long.MIN_VALUE, 600},
            {Long.MIN_VALUE, Long.MAX_VALUE}, {0, Long.MAX_VALUE}, {0, Long.MIN_VALUE}, {Long.MAX_VALUE, Long.MAX_VALUE},
            {Long.MIN_VALUE, Long.MIN_VALUE}, {1L << 32, 600}, {-1L << 32, 600}};
        for (long[] count : bad) {
            unchanged("beside: " + count[0] + " to " + count[1], BAD, x -> x.beside(3, count[0], count[1]));
            unchanged("beside: " + count[0] + " to " + count[1] + " where none are told", BAD, x -> x.beside(5, count[0], count[1]));
        }
    }

    private static void promise26() {
        numberBelow("fall: from a YEAR", 0, 7, (x, v) -> x.fall(v, 3, 0));
        numberBelow("fall: to another", 0, 7, (x, v) -> x.fall(3, v, 0));
        numberBelow("fall: what", 0, 2, (x, v) -> x.fall(3, 0, v));
        for (int year = 0; year < 8; year++) {
            int one = year;
            unchanged("fall: one YEAR, " + one, BAD_BELOW, x -> x.fall(one, one, 0));
            taken("fall: two YEARS, from", BAD_BELOW, (x, v) -> x.fall(v, (v + 1) % 8, 2), one);
        }
    }

    private static void promises29To34() {
        number("book: a YEAR", 0, 7, (x, v) -> x.book(v, 0, 2, 0));
        number("book: a SHEET", 0, 3, (x, v) -> x.book(3, v, 2, 0));
        number("book: a LANE", 0, 2, (x, v) -> x.book(3, 0, v, 0));
        number("crowds: a SHEET", 0, 3, (x, v) -> x.crowds(v, 2, 0));
        number("crowds: a LANE", 0, 2, (x, v) -> x.crowds(0, v, 0));
        number("sheet: a SHEET", 0, 3, (x, v) -> x.sheet(v, 2, 5));
        number("sheet: a LANE", 0, 2, (x, v) -> x.sheet(0, v, 5));
        above("sheet: n", BAD, 24, (x, v) -> x.sheet(0, 2, v));
        number("drop: a SHEET", 0, 3, (x, v) -> x.drop(v));
        number("item: a SHEET", 0, 3, (x, v) -> x.item(v, 2, 0, 5));
        number("item: a LANE", 0, 2, (x, v) -> x.item(0, v, 0, 5));
        number("copy: from a SHEET", 0, 3, (x, v) -> x.copy(v, 0, 0, 1, 2));
        number("copy: to a SHEET", 0, 3, (x, v) -> x.copy(0, 0, v, 1, 2));
    }
}
