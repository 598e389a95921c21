/**
 * Refusals other than BAD (NumbersTest has those): what answers so, which of several is answered, and that nothing
 * changes by it, but as told.
 */
public final class RefusedTest {
    private static final int BAD = -1, NOT = -2, FULL = -3, NONE = -4, NULL = -11, CAST = -12, INDEX = -13, SIZE = -14;
    private static final Due DUE = new Due();

    public static void main(String[] args) {
        looksSeeEveryChange();
        wordsFull();
        promise8Full();
        promise9And11FaultsAndFull();
        wordsNone();
        promise28None();
        promise29Book();
        promise30Crowds();
        promise31Sheet();
        promise32Drop();
        promise33Item();
        promise34Copy();
        DUE.end();
    }

    private static void refused(Look.Deed world, String call, long want, Look.Deed deed) {
        BookOfWills x = new BookOfWills();
        world.on(x);
        DUE.is(call, want, deed.on(x));
        DUE.is(call + " again", want, deed.on(x));
        DUE.is(call + " changes nothing: 1", 1, Look.behind(world).equals(Look.behind(world, deed)) ? 1 : 0);
    }

    private static void refused(String call, long want, Look.Deed deed) {
        refused(Worlds::some, call, want, deed);
    }

    /** Were the look blind, no other test here would mean a thing. */
    private static void looksSeeEveryChange() {
        DUE.says("a look sees every change");
        Look.Deed[] deeds = {x -> x.lives(0, 3), x -> x.lives(5, 5), x -> x.set(0, 46), x -> x.set(1, 31), x -> x.will(7, 0, 0, 1),
            x -> x.had(9, 3, 1), x -> x.had(0, 1, 1), x -> x.burn(9), x -> x.burn(0), x -> x.type(' ', 1), x -> x.type('L', 1),
            x -> x.rules(), x -> x.wills(), x -> x.draw(1, 0, 1), x -> x.people(0, 0, 51), x -> x.people(7, 1, 101),
            x -> x.beside(3, 500, 600), x -> x.beside(3, 0, 700), x -> x.beside(6, 0, 100), x -> x.beside(0, 0, 0),
            x -> x.image(), x -> x.restore(), x -> x.book(3, 0, 2, 0), x -> x.book(3, 0, 2, 20), x -> x.crowds(1, 0, 0),
            x -> x.sheet(2, 0, 0), x -> x.sheet(0, 2, 24), x -> x.sheet(0, 1, 24), x -> x.sheet(1, 0, 9), x -> x.drop(0),
            x -> x.drop(3), x -> x.item(0, 2, 0, 7), x -> x.item(0, 2, 23, 7), x -> x.item(1, 0, 7, 7), x -> x.item(3, 2, 15, 7),
            x -> x.copy(0, 0, 3, 15, 1), x -> x.copy(0, 22, 0, 23, 1)};
        for (int i = 0; i < deeds.length; i++) {
            DUE.is("change " + i + " is seen: 1", 1, Look.behind(Worlds::some).equals(Look.behind(Worlds::some, deeds[i])) ? 0 : 1);
        }
    }

    private static void wordsFull() {
        DUE.says("FULL: 24");
        refused(Worlds::full, "will", FULL, x -> x.will(0, 0, 0, 1));
        refused(Worlds::full, "will of a wrong YEAR", BAD, x -> x.will(8, 0, 0, 1));
        refused(Worlds::full, "will of too much money", BAD, x -> x.will(0, 0, 0, 10000));
        DUE.says("FULL: not all have room");
        refused(Worlds::full, "draw of 1", FULL, x -> x.draw(3, 0, 1));
        refused(Worlds::full, "draw of 24", FULL, x -> x.draw(3, 0, 24));
        refused(Worlds::full, "draw of 25", BAD, x -> x.draw(3, 0, 25));
        refused(Worlds::full, "draw of 0", BAD, x -> x.draw(3, 0, 0));
        refused(Worlds::full, "draw of a wrong YEAR", BAD, x -> x.draw(3, 8, 1));
        refused("draw of one too many", FULL, x -> x.draw(3, 0, 25 - Worlds.WILLS));
        refused("draw of 24", FULL, x -> x.draw(3, 0, 24));
    }

    private static void promise8Full() {
        DUE.says("FULL: 100");
        refused(Worlds::longTape, "type to 101", FULL, x -> x.type(0x2020202020L, 5));
        refused(Worlds::longTape, "type to 104", FULL, x -> x.type(0x2020202020202020L, 8));
        refused(Worlds::longTape, "type of a wrong byte", BAD, x -> x.type(0x201F202020L, 5));
        refused(Worlds::longTape, "type of 9 bytes", BAD, x -> x.type(0x2020202020202020L, 9));
        Look.Deed fullTape = x -> {
            Worlds.longTape(x);
            return x.type(0x20202020L, 4);
        };
        BookOfWills y = new BookOfWills();
        DUE.is("type to 100", 100, fullTape.on(y));
        refused(fullTape, "type to 101", FULL, x -> x.type('9', 1));
        refused(fullTape, "type of a wrong byte", BAD, x -> x.type(127, 1));
        refused(fullTape, "type of no byte", BAD, x -> x.type('9', 0));
    }

    /** What a text changes when it is refused: THE TAPE alone, which is empty then. */
    private static void refusedText(Look.Deed world, String text, boolean asRules, long want) {
        Look.Deed emptied = x -> {
            world.on(x);
            return x.rules();
        };
        // What stands on the tape of these worlds is good RULES or a FAULT; the twin must not take it in.
        Look.Deed emptiedByFault = x -> {
            world.on(x);
            x.type('~', 1);
            return x.rules();
        };
        Look.Deed deed = x -> {
            Due.typed(x, text);
            return asRules ? x.rules() : x.wills();
        };
        BookOfWills x = new BookOfWills();
        emptiedByFault.on(x);
        DUE.is("'" + text + "'", want, deed.on(x));
        DUE.is("'" + text + "' leaves an empty tape", -20, asRules ? x.rules() : x.wills());
        DUE.is("'" + text + "' changes nothing else: 1", 1,
            Look.behind(emptiedByFault).equals(Look.behind(emptiedByFault, deed)) ? 1 : 0);
        DUE.is("good RULES would have been taken in: 1", 1,
            Look.behind(emptiedByFault).equals(Look.behind(emptied)) ? 0 : 1);
    }

    private static void promise9And11FaultsAndFull() {
        DUE.says("THE TAPE, which is empty then. A FAULT (RULES stay)");
        refusedText(Worlds::some, "", true, -20);
        refusedText(Worlds::some, "0:f1l2h3LGTW;", true, -33);
        refusedText(Worlds::some, "0:f1l2h3LGTW;1:f10000", true, -36);
        refusedText(Worlds::some, "0:;1:;2:;3:;4:;5:;6:;7:;7:", true, -43);
        DUE.says("THE TAPE, which is empty then. A FAULT");
        refusedText(Worlds::some, "", false, -20);
        refusedText(Worlds::some, "00m1;11w2l3g4t5;", false, -36);
        refusedText(Worlds::some, "00m1;11w2l3g4t10000", false, -34);
        refusedText(Worlds::full, "00m1;", false, -25);
        refusedText(Worlds::full, "8", false, -20);
        DUE.says("FULL: not all have room (none comes)");
        refusedText(Worlds::full, "00m1", false, FULL);
        refusedText(Worlds::full, "00m1;00m1;00m1;00m1;00m1;00m1;00m1;00m1", false, FULL);
        Look.Deed roomForTwo = x -> {
            Worlds.some(x);
            return x.draw(7, 2, 22 - Worlds.WILLS);
        };
        refusedText(roomForTwo, "00m1;00m2;00m3", false, FULL);
        refusedText(roomForTwo, "00m1;00m2;00m", false, -33);
    }

    private static void wordsNone() {
        // YEARS 1, 2, 4 have no WILLS; none of those of 5, 6, 7 is in THE BOOK; of 5, 6 nothing is UNSEEN.
        Look.Deed world = x -> {
            Worlds.some(x);
            x.rules();
            Due.rules(x, "0:f2l500h20L;3:f1l40h7LGTW;4:f9999");
            return x.will(6, 0, 1, 0);
        };
        for (int year : new int[] {1, 2, 4, 5, 6, 7}) {
            DUE.says("No SHARE, if TOTAL is 0. BAD; NONE");
            for (int what = 0; what < 3; what++) {
                int w = what;
                refused(world, "share of " + year, NONE, x -> x.share(year, 1000, w));
            }
            refused(world, "share of " + year + ", what 3", BAD, x -> x.share(year, 1000, 3));
            refused(world, "share of " + year + ", q 1001", BAD, x -> x.share(year, 1001, 0));
            DUE.says("BAD; NONE: no SHARE");
            for (int what = 0; what < 2; what++) {
                int w = what;
                refused(world, "maker of " + year, NONE, x -> x.maker(year, 1000, w));
                refused(world, "span of " + year, NONE, x -> x.span(year, 1000, w));
            }
            refused(world, "maker of " + year + ", what 2", BAD, x -> x.maker(year, 1000, 2));
            refused(world, "maker of " + year + ", q 0", BAD, x -> x.maker(year, 0, 0));
            refused(world, "span of " + year + ", what 2", BAD, x -> x.span(year, 1000, 2));
            refused(world, "span of " + year + ", q 0", BAD, x -> x.span(year, 0, 0));
        }
        DUE.says("BAD; NONE: all TOTALS are 0");
        refused(world, "smooth of 5 by 0", NONE, x -> x.smooth(5, 10, 0));
        refused(world, "smooth of 5 by 1", NONE, x -> x.smooth(5, 10, 1));
        refused(world, "smooth of 5, q 0", BAD, x -> x.smooth(5, 0, 1));
        refused(world, "smooth of 5 by -1", BAD, x -> x.smooth(5, 10, -1));
        DUE.says("BAD; NONE: no two YEARS one behind the other have a SHARE");
        refused(world, "jump, the YEAR", NONE, x -> x.jump(10, 0));
        refused(world, "jump, by how much", NONE, x -> x.jump(10, 1));
        refused(world, "jump, what 2", BAD, x -> x.jump(10, 2));
        refused(world, "jump, q 0", BAD, x -> x.jump(0, 0));
        DUE.says("BAD; NONE: TOTAL and UNSEEN are 0");
        for (int what = 0; what < 2; what++) {
            int w = what;
            refused(world, "bounds of no WILLS", NONE, x -> x.bounds(1, 10, w));
            refused(world, "bounds of a WILL of nothing", NONE, x -> x.bounds(6, 10, w));
        }
        refused(world, "bounds, what 2", BAD, x -> x.bounds(1, 10, 2));
        refused(world, "bounds, q 0", BAD, x -> x.bounds(1, 0, 0));
    }

    private static void promise28None() {
        DUE.says("NONE: there is none");
        refused(x -> 0, "restore", NONE, x -> x.restore());
        refused(x -> x.will(3, 0, 0, 5), "restore", NONE, x -> x.restore());
    }

    private static void promise29Book() {
        DUE.says("book: BAD; NULL; CAST; INDEX");
        // YEAR 3 has four WILLS in THE BOOK.
        refused("BAD of all", BAD, x -> x.book(8, 2, 0, -1));
        refused("BAD: a LANE, of a SHEET that holds nothing", BAD, x -> x.book(3, 2, 3, -1));
        refused("NULL, of all but BAD", NULL, x -> x.book(3, 2, 0, -1));
        refused("NULL", NULL, x -> x.book(3, 2, 2, 0));
        refused("NULL of no WILLS", NULL, x -> x.book(1, 2, 2, 0));
        refused("CAST ahead of INDEX", CAST, x -> x.book(3, 0, 0, 24));
        refused("CAST", CAST, x -> x.book(3, 0, 1, 0));
        refused("CAST", CAST, x -> x.book(3, 1, 2, 0));
        refused("CAST of no WILLS", CAST, x -> x.book(1, 1, 1, 0));
        for (int i : new int[] {-1, -4, 21, 22, 24, 25, Integer.MIN_VALUE, Integer.MAX_VALUE, Integer.MAX_VALUE - 3}) {
            refused("INDEX of " + i, INDEX, x -> x.book(3, 0, 2, i));
        }
        BookOfWills y = new BookOfWills();
        Worlds.some(y);
        DUE.is("up to the last item", 4, y.book(3, 0, 2, 20));
        DUE.is("from the first item", 4, y.book(3, 1, 0, 0));
    }

    private static void promise30Crowds() {
        DUE.says("crowds: BAD; NULL; CAST; INDEX; NOT: one is not as told");
        Look.Deed world = x -> {
            Worlds.some(x);
            x.item(0, 2, 7, 0);
            x.item(3, 2, 8, 1000000);
            return x.item(1, 0, 0, 255);
        };
        refused(world, "BAD of all", BAD, x -> x.crowds(2, 3, -1));
        refused(world, "NULL, of all but BAD", NULL, x -> x.crowds(2, 0, -1));
        refused(world, "CAST, of CAST, INDEX, NOT", CAST, x -> x.crowds(0, 1, 17));
        refused(world, "CAST, of CAST, NOT", CAST, x -> x.crowds(0, 1, 0));
        for (int i : new int[] {-1, -8, 17, 24, 25, Integer.MIN_VALUE, Integer.MAX_VALUE, Integer.MAX_VALUE - 7}) {
            refused(world, "INDEX of " + i, INDEX, x -> x.crowds(0, 2, i));
        }
        refused(world, "INDEX of 1 of eight items", INDEX, x -> x.crowds(1, 0, 1));
        refused(world, "NOT: the last is 0", NOT, x -> x.crowds(0, 2, 0));
        refused(world, "NOT: the first is 0", NOT, x -> x.crowds(0, 2, 7));
        refused(world, "NOT: the last is 1000000", NOT, x -> x.crowds(3, 2, 1));
        refused(world, "NOT: the first is 1000000", NOT, x -> x.crowds(3, 2, 8));
        refused(world, "NOT: the first is -1", NOT, x -> x.crowds(1, 0, 0));
        BookOfWills y = new BookOfWills();
        world.on(y);
        DUE.is("behind the one that is 0", 8, y.crowds(0, 2, 8));
        DUE.is("up to the last item", 8, y.crowds(0, 2, 16));
        DUE.is("ahead of the one that is 1000000", 8, y.crowds(3, 2, 0));
    }

    private static void promise31Sheet() {
        DUE.says("sheet: BAD: also n above 24; SIZE: n below 0");
        for (int sheet = 0; sheet < 4; sheet++) {
            for (int n : new int[] {-1, -24, -25, Integer.MIN_VALUE}) {
                int s = sheet;
                refused("SIZE of " + n, SIZE, x -> x.sheet(s, 1, n));
            }
        }
        refused("BAD: a SHEET, ahead of SIZE", BAD, x -> x.sheet(4, 1, -1));
        refused("BAD: a LANE, ahead of SIZE", BAD, x -> x.sheet(0, 3, -1));
    }

    private static void promise32Drop() {
        DUE.says("drop: BAD; NULL");
        refused("NULL", NULL, x -> x.drop(2));
        for (int sheet = 0; sheet < 4; sheet++) {
            int s = sheet;
            refused(x -> 0, "NULL at first", NULL, x -> x.drop(s));
        }
    }

    private static void promise33Item() {
        DUE.says("item: BAD; NULL; CAST; INDEX");
        refused("BAD of all", BAD, x -> x.item(2, 3, -1, 5));
        refused("NULL, of all but BAD", NULL, x -> x.item(2, 0, -1, 5));
        refused("CAST ahead of INDEX", CAST, x -> x.item(0, 0, 24, 5));
        refused("CAST", CAST, x -> x.item(0, 1, 0, 5));
        refused("CAST", CAST, x -> x.item(1, 1, 0, 5));
        for (int i : new int[] {-1, 24, 25, 256, 65536, Integer.MIN_VALUE, Integer.MAX_VALUE}) {
            refused("INDEX of " + i, INDEX, x -> x.item(0, 2, i, 5));
        }
        // Behind a short row there is room inside, which no call may reach.
        refused("INDEX of 8 of eight items", INDEX, x -> x.item(1, 0, 8, 5));
        refused("INDEX of 16 of sixteen items", INDEX, x -> x.item(3, 2, 16, 5));
        refused(x -> x.sheet(1, 0, 0), "INDEX of a row of none", INDEX, x -> x.item(1, 0, 0, 5));
    }

    private static void promise34Copy() {
        DUE.says("copy: BAD; NULL (either); CAST: of unlike LANES; INDEX");
        refused("BAD: from, ahead of NULL", BAD, x -> x.copy(4, -1, 2, 0, 1));
        refused("BAD: to, ahead of NULL", BAD, x -> x.copy(2, -1, 4, 0, 1));
        refused("NULL from", NULL, x -> x.copy(2, -1, 0, 0, 1));
        refused("NULL to", NULL, x -> x.copy(0, -1, 2, 0, 1));
        refused("NULL both", NULL, x -> x.copy(2, 0, 2, 0, 0));
        refused("CAST ahead of INDEX", CAST, x -> x.copy(0, -1, 1, 0, 1));
        refused("CAST", CAST, x -> x.copy(1, 0, 3, 0, 1));
        refused("CAST of no items", CAST, x -> x.copy(1, 0, 3, 0, 0));
        int most = Integer.MAX_VALUE;
        int least = Integer.MIN_VALUE;
        // SHEET 0 has 24 items, SHEET 3 16.
        int[][] index = {{-1, 0, 1}, {0, -1, 1}, {24, 0, 1}, {0, 16, 1}, {9, 0, 16}, {0, 1, 16}, {0, 0, 17}, {0, 0, 24}, {0, 0, -1},
            {5, 5, -1}, {5, 5, -5}, {most, 0, 1}, {0, most, 1}, {0, 0, most}, {1, 1, most}, {most, most, most}, {least, 0, 1},
            {0, least, 1}, {0, 0, least}, {least, least, least}, {1, 1, least}};
        for (int[] c : index) {
            refused("INDEX of " + c[0] + ", " + c[1] + ", " + c[2], INDEX, x -> x.copy(0, c[0], 3, c[1], c[2]));
        }
        refused("INDEX: forth within one", INDEX, x -> x.copy(0, 0, 0, 1, 24));
        refused("INDEX: back within one", INDEX, x -> x.copy(0, 1, 0, 0, 24));
        BookOfWills y = new BookOfWills();
        Worlds.some(y);
        DUE.is("all that one has", 16, y.copy(0, 0, 3, 0, 16));
        DUE.is("the last of the one", 16, y.copy(0, 8, 3, 0, 16));
        DUE.is("the last of both", 1, y.copy(0, 23, 3, 15, 1));
    }
}
