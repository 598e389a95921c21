/** The edges of promises 21 to 34, and of the words they use, that no table of numbers or refusals tells, a method for each. */
public final class EdgesOfRulesAloneTest {
    private static final long MOST_COUNTED = 1000000000000000L;
    private static final Due DUE = new Due();

    public static void main(String[] args) {
        promise21NoneIsNothing();
        promise21RulesAlone();
        promise22Bounds();
        promise22None();
        promise23LineOfNothing();
        promise23Below();
        promise23Above();
        promise23AtLeastNothing();
        promise23Hid();
        promise23Set();
        promise24InPlace();
        promise24LeastAndMost();
        promise25Fight();
        promise25Set();
        promise26Rules();
        promise26Prices();
        promise26Rest();
        promise27AllButSheetsAndTape();
        promise28AsItWasThen();
        promise29ByNumbers();
        promise29FromItemOn();
        promise29LowestBits();
        promise29None();
        promise30Crowds();
        promise30NotAsTold();
        promise31NewRow();
        promise32HowManyItHad();
        promise33LowestBits();
        promise34AsIfTakenAhead();
        promise34EverySheet();
        promise34None();
        DUE.end();
    }

    private static BookOfWills with(String rules, String wills) {
        BookOfWills x = new BookOfWills();
        DUE.is("rules '" + rules + "' are good: 1", 1, rules.isEmpty() || Due.rules(x, rules) > 0 ? 1 : 0);
        DUE.is("wills '" + wills + "' are good: 1", 1, wills.isEmpty() || Due.wills(x, wills) > 0 ? 1 : 0);
        return x;
    }

    private static void duePeople(BookOfWills x, int... want) {
        for (int year = 0; year < 8; year++) {
            DUE.is("PEOPLE of " + year, want[year], x.people(year, 0, want[year]));
        }
    }

    // ---- 3

    private static void promise21NoneIsNothing() {
        DUE.says("ALONE: PARTS with RULES of another YEAR, less as it is (none is 0)");
        BookOfWills x = with("0:f5;1:;2:f9", "00m3;00m3;00m4;10m8;10m2");
        DUE.is("none as it is", 40000, x.alone(0, 1, 1));
        DUE.is("none by the others", -80000, x.alone(1, 2, 1));
        DUE.is("none by both", 0, x.alone(0, 2, 1));
        DUE.is("none by both, of no WILLS", 0, x.alone(7, 0, 1));
        DUE.is("the greatest", 100000, x.alone(0, 1, 1000));
        DUE.is("the least", -100000, x.alone(1, 2, 1000));
    }

    private static void promise21RulesAlone() {
        DUE.says("ALONE: RULES of a YEAR for another");
        BookOfWills x = with("0:f5;1:", "00m3;00m6;00m1;10m9");
        for (int year = 0; year < 8; year++) {
            DUE.is("its own RULES", 0, x.alone(year, year, 1));
        }
        // 6 of 6; by RULES of 1 6 of 10. PEOPLE of YEAR 1 do not count.
        DUE.is("from 0 to 1", -40000, x.alone(0, 1, 1));
        x.people(1, 0, 1);
        DUE.is("PEOPLE stay", -40000, x.alone(0, 1, 1));
        x.people(0, 0, 500);
        DUE.is("PEOPLE of its own YEAR", 30000 - 50000, x.alone(0, 1, 1));
        DUE.is("RULES stay", 5, x.rule(0, 0));
    }

    private static void promise22Bounds() {
        DUE.says("BOUNDS: what THE TOP has by TOTAL and UNSEEN; what it has and UNSEEN by TOTAL and UNSEEN");
        BookOfWills x = with("0:", "00m3;00m1;00m0l2;10m0l2;20m3");
        DUE.is("least", 50000, x.bounds(0, 1, 0));
        DUE.is("most", 83333, x.bounds(0, 1, 1));
        DUE.is("nothing is SEEN, least", 0, x.bounds(1, 1, 0));
        DUE.is("nothing is SEEN, most", 100000, x.bounds(1, 1, 1));
        DUE.is("nothing is UNSEEN, least", 100000, x.bounds(2, 1, 0));
        DUE.is("nothing is UNSEEN, most", 100000, x.bounds(2, 1, 1));
        x.people(2, 0, 1);
        DUE.is("a tenth of a hundredth, least", 100, x.bounds(2, 1, 0));
        DUE.is("a tenth of a hundredth, most", 100, x.bounds(2, 1, 1));
    }

    private static void promise22None() {
        DUE.says("bounds: NONE: TOTAL and UNSEEN are 0");
        // 8 is below the FLOOR, but all that was HAD is SWORN.
        BookOfWills x = with("0:f9", "00m8;10m0;20m0l1");
        for (int what = 0; what < 2; what++) {
            DUE.is("SMALL", -4, x.bounds(0, 1, what));
            DUE.is("nothing was HAD", -4, x.bounds(1, 1, what));
            DUE.is("no WILLS", -4, x.bounds(3, 1, what));
            DUE.is("UNSEEN alone", what * 100000, x.bounds(2, 1, what));
        }
    }

    private static void dueHeap(BookOfWills x, int years, int w, int... want) {
        for (int what = 0; what < 4; what++) {
            DUE.is("heap(" + years + ", " + w + ", " + what + ")", want[what], x.heap(years, w, what));
        }
    }

    private static void promise23LineOfNothing() {
        DUE.says("each with its own RULES (a LINE of 0: left out)");
        BookOfWills x = with("0:h999;1:l1h5;2:h999", "00m0;00m1;10m1;10m2;20m1");
        dueHeap(x, 1, 1, 0, 0, 0, 0);
        dueHeap(x, 2, 1, 2, 10, 2, 0);
        dueHeap(x, 7, 1, 2, 10, 2, 0);
        dueHeap(x, 5, 999, 0, 0, 0, 0);
    }

    private static void promise23Below() {
        DUE.says("BELOW are WILLS of which what is SWORN is from LINE less w to LINE");
        BookOfWills x = with("0:l500h3", "00m489;00m490;00m491;00m499;00m500;00m503");
        dueHeap(x, 1, 10, 5, 15, 5, 0);
        dueHeap(x, 1, 11, 6, 18, 6, 0);
        dueHeap(x, 1, 9, 4, 12, 4, 0);
        dueHeap(x, 1, 1, 3, 9, 3, 0);
        BookOfWills low = with("0:l5", "00m0;00w9;00m5;00m4");
        dueHeap(low, 1, 4, 2, 0, 2, 0);
        dueHeap(low, 1, 5, 4, 0, 4, 0);
        dueHeap(low, 1, 999, 4, 0, 4, 0);
    }

    private static void promise23Above() {
        DUE.says("ABOVE those from LINE and 1 to LINE and w");
        BookOfWills x = with("0:l500h1", "00m500;00m501;00m502;00m509;00m510;00m511");
        // 501 swears 500.
        dueHeap(x, 1, 1, 2, 2, 2, 0);
        dueHeap(x, 1, 2, 1, 1, 2, 1);
        dueHeap(x, 1, 9, 0, 0, 2, 2);
        dueHeap(x, 1, 10, 0, 0, 2, 3);
        dueHeap(x, 1, 11, 0, 0, 2, 4);
        BookOfWills plain = with("0:l9999L", "00m9999l1;00m9999l999;00m9999l1000");
        dueHeap(plain, 1, 1, 0, 0, 0, 1);
        dueHeap(plain, 1, 999, 0, 0, 0, 2);
    }

    private static void promise23AtLeastNothing() {
        DUE.says("It is BELOW less ABOVE (0 at least)");
        BookOfWills x = with("0:l10h0;1:l10h7", "00m11;00m12;10m10");
        dueHeap(x, 1, 5, 0, 0, 0, 2);
        dueHeap(x, 3, 5, 0, 0, 1, 2);
        x.will(1, 0, 0, 10);
        dueHeap(x, 3, 5, 0, 0, 2, 2);
        x.will(1, 0, 0, 10);
        dueHeap(x, 3, 5, 1, 7, 3, 2);
    }

    private static void promise23Hid() {
        DUE.says("HID is at most that times KEEN, by the greatest KEEN of these YEARS (but those left out; none: 0)");
        BookOfWills x = with("0:l10h7;1:l10h9;2:l10h8;3:h999;4:", "00m10;10m9;20m8");
        DUE.is("of one", 7, x.heap(1, 5, 1));
        DUE.is("of two", 18, x.heap(3, 5, 1));
        DUE.is("in the midst", 27, x.heap(7, 5, 1));
        DUE.is("of those in the set alone", 16, x.heap(5, 5, 1));
        DUE.is("one that is left out", 27, x.heap(15, 5, 1));
        DUE.is("all are left out", 0, x.heap(24, 5, 1));
        BookOfWills most = new BookOfWills();
        Due.rules(most, "0:l10h999");
        for (int i = 0; i < 24; i++) {
            most.will(0, 0, 0, 10);
        }
        DUE.is("the greatest there is", 24 * 999, most.heap(1, 1, 1));
        BookOfWills other = with("0:l10h7;1:l10h9", "00m10");
        DUE.is("KEEN of a YEAR without WILLS", 9, other.heap(3, 1, 1));
    }

    private static void promise23Set() {
        DUE.says("Sets (of YEARS) are bits");
        BookOfWills x = new BookOfWills();
        Due.rules(x, "0:l10h1");
        for (int year = 0; year < 8; year++) {
            x.will(year, 0, 0, 10);
        }
        for (int years = 1; years < 256; years++) {
            DUE.is("heap(" + years + ", 1, 0)", Integer.bitCount(years), x.heap(years, 1, 0));
        }
    }

    private static void promise24InPlace() {
        DUE.says("COUNTS beside of a YEAR (in place of those told): 1");
        BookOfWills x = with("", "30m5");
        DUE.is("first", 1, x.beside(3, 0, 0));
        DUE.is("they fight", 8, x.fights());
        DUE.is("others", 1, x.beside(3, 500, 500));
        DUE.is("they do not", 0, x.fights());
        DUE.is("COUNTS", 1, x.count(5));
        DUE.is("refused", -1, x.beside(3, 1, 0));
        DUE.is("those told stand", 0, x.fights());
        x.had(0, 0, 4);
        DUE.is("those told stand", 8, x.fights());
    }

    private static void promise24LeastAndMost() {
        DUE.says("a least and a most TOTAL (0 .. 10^15, the least no more)");
        BookOfWills x = new BookOfWills();
        DUE.is("0 to 0", 1, x.beside(0, 0, 0));
        DUE.is("0 to 10^15", 1, x.beside(1, 0, MOST_COUNTED));
        DUE.is("10^15 to 10^15", 1, x.beside(2, MOST_COUNTED, MOST_COUNTED));
        DUE.is("beyond 10^15", -1, x.beside(3, MOST_COUNTED, MOST_COUNTED + 1));
        DUE.is("below 0", -1, x.beside(4, -1, 0));
        DUE.is("the least is more by 1", -1, x.beside(5, MOST_COUNTED, MOST_COUNTED - 1));
        DUE.is("COUNTS", 3, x.count(5));
        DUE.is("fights", 4, x.fights());
    }

    private static void promise25Fight() {
        DUE.says("They FIGHT, if no number from TOTAL to TOTAL and UNSEEN is one of these");
        BookOfWills x = with("0:", "20m10l5");
        long[][] counts = {{0, 0}, {0, 999}, {999, 999}, {0, 1000}, {1000, 1000}, {999, 1501}, {1001, 1499}, {1500, 1500},
            {1500, MOST_COUNTED}, {1501, 1501}, {1501, MOST_COUNTED}, {0, MOST_COUNTED}, {1250, 1250}};
        int[] fight = {4, 4, 4, 0, 0, 0, 0, 0, 0, 4, 4, 0, 0};
        for (int i = 0; i < counts.length; i++) {
            x.beside(2, counts[i][0], counts[i][1]);
            DUE.is("COUNTS " + counts[i][0] + " to " + counts[i][1], fight[i], x.fights());
        }
        BookOfWills none = new BookOfWills();
        none.beside(0, 0, 5);
        none.beside(1, 1, 5);
        DUE.is("without WILLS, 0 to 5 and 1 to 5", 2, none.fights());
    }

    private static void promise25Set() {
        DUE.says("YEARS whose COUNTS FIGHT, as a set");
        for (int years = 0; years < 256; years++) {
            BookOfWills x = new BookOfWills();
            for (int year = 0; year < 8; year++) {
                x.beside(year, years >> year & 1, 1);
            }
            DUE.is("fights", years, x.fights());
        }
        BookOfWills y = with("", "00m5;70m5");
        DUE.is("YEARS without COUNTS do not", 0, y.fights());
    }

    private static void promise26Rules() {
        DUE.says("0 RULES: TOTAL of WILLS of a by RULES of b, less TOTAL of a");
        BookOfWills x = with("0:L;1:f9", "00m5l5;00m3;10m20l1;10m4");
        DUE.is("from 0 to 1: 0 of 1300", -1300, x.fall(0, 1, 0));
        DUE.is("from 1 to 0: 2500 of 2000", 500, x.fall(1, 0, 0));
        DUE.is("from none", 0, x.fall(5, 0, 0));
        x.people(0, 0, 1);
        DUE.is("PEOPLE do not count", -1300, x.fall(0, 1, 0));
    }

    private static void promise26Prices() {
        DUE.says("1 PRICES: times PRICES of b by PRICES of a (cut), less that TOTAL");
        BookOfWills x = with("", "00m1;20m7");
        x.people(0, 1, 999);
        x.people(1, 1, 1);
        DUE.is("100 by 999", -100, x.fall(0, 1, 1));
        DUE.is("nothing", 0, x.fall(1, 0, 1));
        x.people(0, 1, 1);
        x.people(1, 1, 999);
        DUE.is("100 times 999", 99800, x.fall(0, 1, 1));
        x.people(0, 1, 3);
        x.people(1, 1, 2);
        DUE.is("66.6 is cut", -34, x.fall(0, 1, 1));
        x.people(1, 1, 3);
        DUE.is("like PRICES", 0, x.fall(0, 1, 1));
        BookOfWills most = new BookOfWills();
        most.lives(0, 400);
        most.set(0, 0);
        most.set(1, 100);
        for (int i = 0; i < 24; i++) {
            most.will(0, 0, 0, 9999);
            most.had(i, 1, 9999);
            most.had(i, 2, 9999);
            most.had(i, 3, 9999);
        }
        Due.rules(most, "0:LGT");
        most.people(0, 1, 1);
        most.people(1, 1, 999);
        DUE.is("the greatest", 24L * 39996 * 80000 * 998, most.fall(0, 1, 1));
        DUE.is("the least", -24L * 39996 * 80000 * 999, most.fall(0, 1, 2));
    }

    private static void promise26Rest() {
        DUE.says("2 the rest: TOTAL of b, less all these and TOTAL of a");
        BookOfWills x = with("0:L;1:f9;2:G", "00m5l5;00m3g2;10m20l1;10m4;20m7g1;20m1");
        x.people(0, 1, 7);
        x.people(1, 1, 3);
        x.people(2, 1, 11);
        for (int from = 0; from < 8; from++) {
            for (int to = 0; to < 8; to++) {
                if (from != to) {
                    long sum = x.fall(from, to, 0) + x.fall(from, to, 1) + x.fall(from, to, 2);
                    DUE.is("all parts from " + from + " to " + to, x.total(to, 0) - x.total(from, 0), sum);
                }
            }
        }
        DUE.is("from none: all is the rest", 2000, x.fall(5, 1, 2));
        // By RULES of 5, which see gifts, 1000; by PRICES 100 for 7 14285.
        DUE.is("to none", -14285, x.fall(0, 5, 2));
    }

    private static void promise27AllButSheetsAndTape() {
        DUE.says("All but SHEETS, THE TAPE is kept as an IMAGE: 1");
        BookOfWills x = new BookOfWills();
        DUE.is("of a new object", 1, x.image());
        Worlds.row(x, 0, 2, 8, 5);
        Due.typed(x, "0:f7");
        x.will(0, 0, 0, 1);
        DUE.is("restore", 1, x.restore());
        DUE.is("WILLS", 0, x.count(0));
        DUE.is("the SHEET stays", 8, x.crowds(0, 2, 0));
        DUE.is("THE TAPE stays", 1, x.rules());
        DUE.is("image in place of the other", 1, x.image());
        DUE.is("restore", 1, x.restore());
        DUE.is("RULES", 7, x.rule(0, 0));
        duePeople(x, 5, 6, 7, 8, 9, 10, 11, 12);
    }

    private static void promise28AsItWasThen() {
        DUE.says("All is as it was then: 1");
        Look.Deed changed = x -> {
            Worlds.full(x);
            x.image();
            while (x.count(0) > 0) {
                x.burn(0);
            }
            Due.rules(x, "~");
            Due.rules(x, "0:f9999");
            x.set(0, 1);
            x.set(1, 1);
            for (int age = 0; age < 6; age++) {
                x.lives(age, 400);
            }
            for (int year = 0; year < 8; year++) {
                x.people(year, 0, 999999);
                x.people(year, 1, 999);
                x.beside(year, 1, 2);
            }
            return x.restore();
        };
        BookOfWills y = new BookOfWills();
        DUE.is("restore", 1, changed.on(y));
        Look.Deed kept = x -> {
            Worlds.full(x);
            x.image();
            return Due.rules(x, "~");
        };
        DUE.is("as it was then: 1", 1, Look.behind(kept).equals(Look.behind(changed)) ? 1 : 0);
        DUE.is("once more", 1, y.restore());
        y.burn(0);
        DUE.is("once more", 1, y.restore());
        DUE.is("WILLS", 24, y.count(0));
    }

    // ---- 4

    private static void promise29ByNumbers() {
        DUE.says("What is SWORN of WILLS of a YEAR that are in THE BOOK, by numbers: how many");
        BookOfWills x = with("0:f3l500h20L", "20m3;30m9;20m520;20m2;20w900;20m499l1;20m3;20m9999l9999");
        Worlds.row(x, 0, 2, 24, 101);
        DUE.is("book", 5, x.book(2, 0, 2, 0));
        DUE.is("crowds", 8, x.crowds(0, 2, 0));
        duePeople(x, 3, 500, 500, 3, 19998, 106, 107, 108);
    }

    private static void promise29FromItemOn() {
        DUE.says("comes to a SHEET from item i on");
        BookOfWills x = with("", "70m1;70m2");
        Worlds.row(x, 3, 2, 10, 51);
        DUE.is("to the last items", 2, x.book(7, 3, 2, 8));
        DUE.is("one too far", -13, x.book(7, 3, 2, 9));
        DUE.is("crowds", 8, x.crowds(3, 2, 2));
        duePeople(x, 53, 54, 55, 56, 57, 58, 1, 2);
        DUE.is("to the first items", 2, x.book(7, 3, 2, 0));
        DUE.is("crowds", 8, x.crowds(3, 2, 0));
        duePeople(x, 1, 2, 53, 54, 55, 56, 57, 58);
        BookOfWills all = new BookOfWills();
        all.sheet(0, 1, 24);
        all.sheet(1, 1, 23);
        for (int i = 0; i < 24; i++) {
            all.will(4, 0, 0, i + 1);
        }
        DUE.is("24 to 24 items", 24, all.book(4, 0, 1, 0));
        DUE.is("24 to 24 items from 1 on", -13, all.book(4, 0, 1, 1));
        DUE.is("24 to 23 items", -13, all.book(4, 1, 1, 0));
        DUE.is("crowds", 8, all.crowds(0, 1, 16));
        duePeople(all, 17, 18, 19, 20, 21, 22, 23, 24);
    }

    private static void promise29LowestBits() {
        DUE.says("taken as a row of a LANE");
        BookOfWills x = with("0:LGT", "00m127;00m128;00m255;00m256;00m257");
        Due.wills(x, "00m9999l9999g9999t2770;00m9999l9999g9999t2771;00m9999l9999g9999t9999");
        Worlds.row(x, 0, 0, 8, 1);
        Worlds.row(x, 1, 1, 8, 1);
        Worlds.row(x, 2, 2, 8, 1);
        for (int lane = 0; lane < 3; lane++) {
            DUE.is("book, LANE " + lane, 8, x.book(0, lane, lane, 0));
        }
        // As bytes 127, -128, -1, 0, 1, -1, 0, 60; as shorts all stay but 32768, which is below 0, and 39996.
        DUE.is("bytes: 128 is below 0", -2, x.crowds(0, 0, 0));
        for (int i : new int[] {1, 2, 3, 5, 6}) {
            x.item(0, 0, i, 99);
        }
        DUE.is("bytes", 8, x.crowds(0, 0, 0));
        duePeople(x, 127, 99, 99, 99, 1, 99, 99, 60);
        DUE.is("shorts: 32768 is below 0", -2, x.crowds(1, 1, 0));
        x.item(1, 1, 6, 99);
        DUE.is("shorts: 39996 is below 0", -2, x.crowds(1, 1, 0));
        x.item(1, 1, 7, 99);
        DUE.is("shorts", 8, x.crowds(1, 1, 0));
        duePeople(x, 127, 128, 255, 256, 257, 32767, 99, 99);
        DUE.is("ints", 8, x.crowds(2, 2, 0));
        duePeople(x, 127, 128, 255, 256, 257, 32767, 32768, 39996);
    }

    private static void promise29None() {
        DUE.says("how many: none");
        BookOfWills x = with("0:f9", "00m8");
        Worlds.row(x, 0, 2, 8, 1);
        x.sheet(1, 0, 0);
        DUE.is("none in THE BOOK", 0, x.book(0, 0, 2, 0));
        DUE.is("no WILLS", 0, x.book(1, 0, 2, 0));
        DUE.is("to a row of none", 0, x.book(1, 1, 0, 0));
        DUE.is("crowds", 8, x.crowds(0, 2, 0));
        duePeople(x, 1, 2, 3, 4, 5, 6, 7, 8);
        DUE.is("NULL", -11, x.book(1, 2, 0, 0));
        DUE.is("CAST", -12, x.book(1, 0, 0, 0));
    }

    private static void promise30Crowds() {
        DUE.says("PEOPLE of all YEARS are 8 items of a SHEET from item i on: 8");
        BookOfWills x = new BookOfWills();
        Worlds.row(x, 1, 2, 24, 1);
        for (int i = 0; i <= 16; i++) {
            DUE.is("crowds(1, 2, " + i + ")", 8, x.crowds(1, 2, i));
            duePeople(x, i + 1, i + 2, i + 3, i + 4, i + 5, i + 6, i + 7, i + 8);
        }
        DUE.is("crowds(1, 2, 17)", -13, x.crowds(1, 2, 17));
        DUE.is("crowds(1, 2, -1)", -13, x.crowds(1, 2, -1));
        BookOfWills seven = new BookOfWills();
        Worlds.row(seven, 0, 2, 7, 1);
        DUE.is("seven items", -13, seven.crowds(0, 2, 0));
    }

    private static void promise30NotAsTold() {
        DUE.says("NOT: one is not as told");
        for (int place = 0; place < 8; place++) {
            for (int v : new int[] {0, -1, 1000000, Integer.MIN_VALUE, Integer.MAX_VALUE}) {
                BookOfWills x = new BookOfWills();
                Worlds.row(x, 0, 2, 8, 1);
                x.item(0, 2, place, v);
                DUE.is(v + " at " + place, -2, x.crowds(0, 2, 0));
                duePeople(x, 1000, 1000, 1000, 1000, 1000, 1000, 1000, 1000);
            }
            for (int v : new int[] {1, 999999}) {
                BookOfWills x = new BookOfWills();
                Worlds.row(x, 0, 2, 8, 1);
                x.item(0, 2, place, v);
                DUE.is(v + " at " + place, 8, x.crowds(0, 2, 0));
                DUE.is("PEOPLE", v, x.people(place, 0, 1));
            }
        }
    }

    private static void promise31NewRow() {
        DUE.says("A SHEET holds a new row of a LANE: n (0 to 24 items)");
        for (int sheet = 0; sheet < 4; sheet++) {
            for (int lane = 0; lane < 3; lane++) {
                BookOfWills x = new BookOfWills();
                for (int n = 0; n <= 24; n++) {
                    DUE.is("sheet(" + sheet + ", " + lane + ", " + n + ")", n, x.sheet(sheet, lane, n));
                    DUE.is("the last item", n == 0 ? -13 : 1, x.item(sheet, lane, n - 1, 1));
                    DUE.is("behind the last item", -13, x.item(sheet, lane, n, 1));
                    DUE.is("another LANE", -12, x.item(sheet, (lane + 1) % 3, 0, 1));
                }
                DUE.is("the other SHEETS hold nothing", -11, x.drop((sheet + 1) % 4));
                DUE.is("the other SHEETS hold nothing", -11, x.drop((sheet + 3) % 4));
            }
        }
        DUE.says("A SHEET holds a new row: its items are 0");
        BookOfWills y = new BookOfWills();
        Worlds.row(y, 0, 2, 24, 7);
        y.sheet(0, 2, 24);
        for (int from = 0; from <= 16; from += 8) {
            for (int i = 7; i >= 0; i--) {
                DUE.is("item " + (from + i) + " is 0", -2, y.crowds(0, 2, from));
                y.item(0, 2, from + i, 1);
            }
            DUE.is("none is 0", 8, y.crowds(0, 2, from));
        }
    }

    private static void promise32HowManyItHad() {
        DUE.says("A SHEET holds nothing: how many items it had. BAD; NULL");
        for (int sheet = 0; sheet < 4; sheet++) {
            BookOfWills x = new BookOfWills();
            DUE.is("nothing at first", -11, x.drop(sheet));
            for (int n : new int[] {0, 1, 24}) {
                x.sheet(sheet, 1, n);
                DUE.is("a row of " + n, n, x.drop(sheet));
                DUE.is("nothing then", -11, x.drop(sheet));
                DUE.is("nothing then", -11, x.item(sheet, 1, 0, 1));
                DUE.is("nothing then", -11, x.crowds(sheet, 1, 0));
                DUE.is("nothing then", -11, x.book(0, sheet, 1, 0));
                DUE.is("nothing then", -11, x.copy(sheet, 0, sheet, 0, 0));
            }
            x.sheet(sheet, 2, 8);
            DUE.is("its old items are no more", -2, x.crowds(sheet, 2, 0));
        }
    }

    private static void promise33LowestBits() {
        DUE.says("Item i becomes v, its lowest bits: 1");
        int[] v = {1, 127, 128, 255, 256, 257, 32767, 32768, 65535, 65536, 65537, -1, -128, -255, Integer.MIN_VALUE, Integer.MAX_VALUE,
            Integer.MIN_VALUE + 1, 0x12345678, 999999, 1000000};
        for (int given : v) {
            int[] taken = {(byte) given, (short) given, given};
            for (int lane = 0; lane < 3; lane++) {
                BookOfWills x = new BookOfWills();
                Worlds.row(x, 0, lane, 8, 1);
                DUE.is("item of " + given + ", LANE " + lane, 1, x.item(0, lane, 3, given));
                boolean good = taken[lane] >= 1 && taken[lane] <= 999999;
                DUE.is("crowds", good ? 8 : -2, x.crowds(0, lane, 0));
                DUE.is("PEOPLE", good ? taken[lane] : 1000, x.people(3, 0, 1));
                DUE.is("PEOPLE of its neighbour", good ? 5 : 1000, x.people(4, 0, 1));
            }
        }
    }

    private static void promise34AsIfTakenAhead() {
        DUE.says("n items of a SHEET from i on come to another one (or the same) from j on, as if all were taken ahead: n");
        for (int i = 0; i <= 8; i++) {
            for (int j = 0; j <= 8; j++) {
                for (int n = 0; n <= 8 - Math.max(i, j); n++) {
                    BookOfWills x = new BookOfWills();
                    Worlds.row(x, 0, 2, 8, 11);
                    Worlds.row(x, 1, 2, 8, 21);
                    int[] same = {11, 12, 13, 14, 15, 16, 17, 18};
                    int[] other = {21, 22, 23, 24, 25, 26, 27, 28};
                    int[] first = same.clone();
                    System.arraycopy(first, i, other, j, n);
                    System.arraycopy(first, i, same, j, n);
                    DUE.is("copy(0, " + i + ", 1, " + j + ", " + n + ")", n, x.copy(0, i, 1, j, n));
                    DUE.is("copy(0, " + i + ", 0, " + j + ", " + n + ")", n, x.copy(0, i, 0, j, n));
                    x.crowds(0, 2, 0);
                    duePeople(x, same);
                    x.crowds(1, 2, 0);
                    duePeople(x, other);
                }
            }
        }
        BookOfWills y = new BookOfWills();
        Worlds.row(y, 0, 0, 24, 1);
        Worlds.row(y, 3, 0, 24, 50);
        DUE.is("all 24", 24, y.copy(0, 0, 3, 0, 24));
        DUE.is("all 24 of itself", 24, y.copy(0, 0, 0, 0, 24));
        y.crowds(3, 0, 16);
        duePeople(y, 17, 18, 19, 20, 21, 22, 23, 24);
    }

    private static void promise34EverySheet() {
        DUE.says("n items of a SHEET come to another one (or the same)");
        for (int from = 0; from < 4; from++) {
            for (int to = 0; to < 4; to++) {
                BookOfWills x = new BookOfWills();
                for (int sheet = 0; sheet < 4; sheet++) {
                    Worlds.row(x, sheet, 2, 24, 100 * sheet + 1);
                }
                DUE.is("copy(" + from + ", 16, " + to + ", 1, 6)", 6, x.copy(from, 16, to, 1, 6));
                for (int sheet = 0; sheet < 4; sheet++) {
                    int own = 100 * sheet;
                    int other = 100 * from + 16;
                    x.crowds(sheet, 2, 0);
                    if (sheet == to) {
                        duePeople(x, own + 1, other + 1, other + 2, other + 3, other + 4, other + 5, other + 6, own + 8);
                    } else {
                        duePeople(x, own + 1, own + 2, own + 3, own + 4, own + 5, own + 6, own + 7, own + 8);
                    }
                    x.crowds(sheet, 2, 16);
                    duePeople(x, own + 17, own + 18, own + 19, own + 20, own + 21, own + 22, own + 23, own + 24);
                }
            }
        }
    }

    private static void promise34None() {
        DUE.says("copy: n items: none");
        BookOfWills x = new BookOfWills();
        x.sheet(0, 1, 0);
        x.sheet(1, 1, 8);
        DUE.is("of a row of none", 0, x.copy(0, 0, 1, 0, 0));
        DUE.is("to a row of none", 0, x.copy(1, 8, 0, 0, 0));
        DUE.is("one of a row of none", -13, x.copy(0, 0, 1, 0, 1));
        DUE.is("one to a row of none", -13, x.copy(1, 0, 0, 0, 1));
    }
}
