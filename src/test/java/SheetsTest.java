/** Promises 29 to 34. */
public final class SheetsTest {
    private static final Due DUE = new Due();

    public static void main(String[] args) {
        promise29Book();
        promise29BookNothing();
        promise30Crowds();
        promise30CrowdsLanes();
        promise31Sheet();
        promise32Drop();
        promise33Item();
        promise34Copy();
        promise34CopyRefused();
        DUE.end();
    }

    /** What a SHEET of ints holds from item i on: PEOPLE of eight YEARS, which tell what they were. */
    private static void duePeople(BookOfWills x, String why, int... want) {
        for (int year = 0; year < 8; year++) {
            DUE.is(why + ": PEOPLE of " + year, want[year], x.people(year, 0, want[year]));
        }
    }

    private static void promise29Book() {
        BookOfWills x = new BookOfWills();
        Due.rules(x, "0:f3l500h20L");
        Due.wills(x, "20m510;30m9;20m2;20m3l300;20w7;20m200");
        x.sheet(1, 2, 12);
        for (int i = 0; i < 12; i++) {
            x.item(1, 2, i, 1000 + i);
        }
        DUE.is("book", 3, x.book(2, 1, 2, 4));
        x.crowds(1, 2, 1);
        duePeople(x, "book", 1001, 1002, 1003, 500, 303, 200, 1007, 1008);
        DUE.is("book: up to the end", 3, x.book(2, 1, 2, 9));
        DUE.is("book: INDEX beyond the end", -13, x.book(2, 1, 2, 10));
        DUE.is("book: INDEX below 0", -13, x.book(2, 1, 2, -1));
        DUE.is("book: INDEX at the greatest int", -13, x.book(2, 1, 2, Integer.MAX_VALUE));
        DUE.is("book: INDEX at the least int", -13, x.book(2, 1, 2, Integer.MIN_VALUE));
        x.crowds(1, 2, 4);
        duePeople(x, "book: INDEX changes nothing", 500, 303, 200, 1007, 1008, 500, 303, 200);
        DUE.is("book: year 8", -1, x.book(8, 1, 2, 0));
        DUE.is("book: year -1", -1, x.book(-1, 1, 2, 0));
        DUE.is("book: sheet 4", -1, x.book(2, 4, 2, 0));
        DUE.is("book: sheet -1", -1, x.book(2, -1, 2, 0));
        DUE.is("book: lane 3", -1, x.book(2, 1, 3, 0));
        DUE.is("book: lane -1", -1, x.book(2, 1, -1, 0));
        DUE.is("book: NULL ahead of INDEX", -11, x.book(2, 0, 2, -1));
        DUE.is("book: CAST ahead of INDEX", -12, x.book(2, 1, 1, -1));
        DUE.is("book: CAST", -12, x.book(2, 1, 0, 0));
    }

    private static void promise29BookNothing() {
        BookOfWills x = new BookOfWills();
        x.sheet(0, 0, 0);
        DUE.is("book: none, at the end", 0, x.book(2, 0, 0, 0));
        DUE.is("book: none, beyond the end", -13, x.book(2, 0, 0, 1));
        DUE.is("book: none, below 0", -13, x.book(2, 0, 0, -1));
        x.will(2, 0, 0, 1);
        DUE.is("book: one has no room", -13, x.book(2, 0, 0, 0));
        x.sheet(0, 0, 24);
        x.had(0, 0, 300);
        DUE.is("book: one", 1, x.book(2, 0, 0, 23));
        for (int i = 16; i < 23; i++) {
            x.item(0, 0, i, 1);
        }
        DUE.is("book: a byte of 300", 8, x.crowds(0, 0, 16));
        duePeople(x, "book: a byte of 300", 1, 1, 1, 1, 1, 1, 1, 44);
    }

    private static void promise30Crowds() {
        BookOfWills x = new BookOfWills();
        x.sheet(2, 2, 9);
        for (int i = 0; i < 9; i++) {
            x.item(2, 2, i, i);
        }
        DUE.is("crowds: NOT, for one is 0", -2, x.crowds(2, 2, 0));
        duePeople(x, "crowds: NOT changes nothing", 1000, 1000, 1000, 1000, 1000, 1000, 1000, 1000);
        DUE.is("crowds", 8, x.crowds(2, 2, 1));
        duePeople(x, "crowds", 1, 2, 3, 4, 5, 6, 7, 8);
        x.item(2, 2, 8, 1000000);
        x.item(2, 2, 1, 77);
        DUE.is("crowds: NOT, for the last is too many", -2, x.crowds(2, 2, 1));
        duePeople(x, "crowds: NOT changes nothing", 1, 2, 3, 4, 5, 6, 7, 8);
        x.item(2, 2, 8, 999999);
        DUE.is("crowds: the most", 8, x.crowds(2, 2, 1));
        duePeople(x, "crowds: the most", 77, 2, 3, 4, 5, 6, 7, 999999);
        x.item(2, 2, 8, -5);
        DUE.is("crowds: below 0", -2, x.crowds(2, 2, 1));
        DUE.is("crowds: INDEX", -13, x.crowds(2, 2, 2));
        DUE.is("crowds: INDEX ahead of NOT", -13, x.crowds(2, 2, -1));
        DUE.is("crowds: INDEX", -13, x.crowds(2, 2, Integer.MAX_VALUE));
        DUE.is("crowds: INDEX", -13, x.crowds(2, 2, Integer.MIN_VALUE));
        DUE.is("crowds: CAST ahead of INDEX", -12, x.crowds(2, 1, -1));
        DUE.is("crowds: NULL ahead of INDEX", -11, x.crowds(3, 1, -1));
        DUE.is("crowds: sheet 4", -1, x.crowds(4, 1, 0));
        DUE.is("crowds: sheet -1", -1, x.crowds(-1, 1, 0));
        DUE.is("crowds: lane 3, ahead of NULL", -1, x.crowds(3, 3, 0));
        DUE.is("crowds: lane -1", -1, x.crowds(2, -1, 0));
    }

    private static void promise30CrowdsLanes() {
        BookOfWills x = new BookOfWills();
        for (int lane = 0; lane < 3; lane++) {
            x.sheet(lane, lane, 8);
            for (int i = 0; i < 8; i++) {
                x.item(lane, lane, i, 65536 * 3 + 256 * 5 + 7 + i);
            }
        }
        DUE.is("crowds: bytes", 8, x.crowds(0, 0, 0));
        duePeople(x, "crowds: bytes", 7, 8, 9, 10, 11, 12, 13, 14);
        DUE.is("crowds: shorts", 8, x.crowds(1, 1, 0));
        duePeople(x, "crowds: shorts", 1287, 1288, 1289, 1290, 1291, 1292, 1293, 1294);
        DUE.is("crowds: ints", 8, x.crowds(2, 2, 0));
        duePeople(x, "crowds: ints", 197895, 197896, 197897, 197898, 197899, 197900, 197901, 197902);
        x.item(0, 0, 7, 127);
        DUE.is("crowds: the greatest byte", 8, x.crowds(0, 0, 0));
        x.item(0, 0, 7, 128);
        DUE.is("crowds: a byte below 0", -2, x.crowds(0, 0, 0));
        x.item(1, 1, 7, 32767);
        DUE.is("crowds: the greatest short", 8, x.crowds(1, 1, 0));
        x.item(1, 1, 7, 32768);
        DUE.is("crowds: a short below 0", -2, x.crowds(1, 1, 0));
    }

    private static void promise31Sheet() {
        BookOfWills x = new BookOfWills();
        DUE.is("sheet: 24", 24, x.sheet(3, 2, 24));
        for (int i = 0; i < 24; i++) {
            DUE.is("sheet: item", 1, x.item(3, 2, i, 5));
        }
        DUE.is("sheet: INDEX", -13, x.item(3, 2, 24, 5));
        DUE.is("sheet: a new row", 8, x.sheet(3, 2, 8));
        for (int i = 7; i >= 0; i--) {
            DUE.is("sheet: of noughts", -2, x.crowds(3, 2, 0));
            x.item(3, 2, i, 1);
        }
        DUE.is("sheet: of noughts no more", 8, x.crowds(3, 2, 0));
        DUE.is("sheet: another LANE", 8, x.sheet(3, 0, 8));
        DUE.is("sheet: another LANE", -12, x.crowds(3, 2, 0));
        DUE.is("sheet: none", 0, x.sheet(3, 1, 0));
        DUE.is("sheet: none is a row", 0, x.drop(3));
        x.sheet(3, 1, 7);
        DUE.is("sheet: SIZE", -14, x.sheet(3, 0, -1));
        DUE.is("sheet: SIZE", -14, x.sheet(3, 0, Integer.MIN_VALUE));
        DUE.is("sheet: n 25", -1, x.sheet(3, 0, 25));
        DUE.is("sheet: sheet 4 ahead of SIZE", -1, x.sheet(4, 0, -1));
        DUE.is("sheet: sheet -1", -1, x.sheet(-1, 0, 1));
        DUE.is("sheet: lane 3 ahead of SIZE", -1, x.sheet(0, 3, -1));
        DUE.is("sheet: lane -1", -1, x.sheet(0, -1, 1));
        DUE.is("sheet: refused, it changes nothing", 7, x.drop(3));
    }

    private static void promise32Drop() {
        BookOfWills x = new BookOfWills();
        DUE.is("drop: NULL", -11, x.drop(0));
        DUE.is("drop: 4", -1, x.drop(4));
        DUE.is("drop: -1", -1, x.drop(-1));
        x.sheet(0, 0, 5);
        x.sheet(1, 1, 6);
        DUE.is("drop", 5, x.drop(0));
        DUE.is("drop: it holds nothing", -11, x.drop(0));
        DUE.is("drop: it holds nothing", -11, x.item(0, 0, 0, 1));
        DUE.is("drop: others stay", 6, x.drop(1));
    }

    private static void promise33Item() {
        BookOfWills x = new BookOfWills();
        x.sheet(0, 1, 5);
        DUE.is("item", 1, x.item(0, 1, 4, -1));
        DUE.is("item: INDEX", -13, x.item(0, 1, 5, -1));
        DUE.is("item: INDEX", -13, x.item(0, 1, -1, -1));
        DUE.is("item: INDEX", -13, x.item(0, 1, Integer.MAX_VALUE, -1));
        DUE.is("item: INDEX", -13, x.item(0, 1, Integer.MIN_VALUE, -1));
        DUE.is("item: CAST ahead of INDEX", -12, x.item(0, 0, 5, -1));
        DUE.is("item: CAST", -12, x.item(0, 2, 0, -1));
        DUE.is("item: NULL", -11, x.item(1, 2, 5, -1));
        DUE.is("item: lane 3 ahead of NULL", -1, x.item(1, 3, 0, -1));
        DUE.is("item: lane -1", -1, x.item(0, -1, 0, -1));
        DUE.is("item: sheet 4", -1, x.item(4, 0, 0, -1));
        DUE.is("item: sheet -1", -1, x.item(-1, 0, 0, -1));
        DUE.is("item: the neighbour's row stays", 8, x.sheet(1, 1, 8));
        DUE.is("item: the neighbour's row stays", -2, x.crowds(1, 1, 0));
    }

    private static void promise34Copy() {
        BookOfWills x = new BookOfWills();
        x.sheet(0, 2, 10);
        for (int i = 0; i < 10; i++) {
            x.item(0, 2, i, i + 1);
        }
        x.sheet(3, 2, 8);
        DUE.is("copy: to another", 8, x.copy(0, 2, 3, 0, 8));
        x.crowds(3, 2, 0);
        duePeople(x, "copy: to another", 3, 4, 5, 6, 7, 8, 9, 10);
        DUE.is("copy: within it, forth", 6, x.copy(0, 0, 0, 2, 6));
        x.crowds(0, 2, 0);
        duePeople(x, "copy: within it, forth", 1, 2, 1, 2, 3, 4, 5, 6);
        DUE.is("copy: within it, back", 5, x.copy(0, 5, 0, 4, 5));
        x.crowds(0, 2, 1);
        duePeople(x, "copy: within it, back", 2, 1, 2, 4, 5, 6, 9, 10);
        DUE.is("copy: none", 0, x.copy(0, 0, 3, 0, 0));
        DUE.is("copy: none, at both ends", 0, x.copy(0, 10, 3, 8, 0));
        x.crowds(3, 2, 0);
        duePeople(x, "copy: none", 3, 4, 5, 6, 7, 8, 9, 10);
    }

    private static void promise34CopyRefused() {
        BookOfWills x = new BookOfWills();
        x.sheet(0, 2, 10);
        for (int i = 0; i < 10; i++) {
            x.item(0, 2, i, i + 1);
        }
        x.sheet(1, 1, 10);
        x.sheet(3, 2, 8);
        int huge = Integer.MAX_VALUE;
        int[][] index = {{0, -1, 3, 0, 1}, {0, 0, 3, -1, 1}, {0, 0, 3, 0, -1}, {0, 0, 3, 0, 9}, {0, 3, 3, 0, 8}, {0, 0, 3, 1, 8},
            {0, 11, 3, 0, 0}, {0, 0, 3, 9, 0}, {0, -1, 3, 0, 0}, {0, 0, 3, -1, 0}, {0, huge, 3, 0, 1}, {0, 0, 3, huge, 1},
            {0, 1, 3, 1, huge}, {0, huge, 3, huge, huge}, {0, 0, 3, 0, Integer.MIN_VALUE}, {0, Integer.MIN_VALUE, 3, 0, 1}};
        for (int[] c : index) {
            DUE.is("copy: INDEX", -13, x.copy(c[0], c[1], c[2], c[3], c[4]));
        }
        DUE.is("copy: INDEX changes nothing", -2, x.crowds(3, 2, 0));
        DUE.is("copy: CAST ahead of INDEX", -12, x.copy(0, -1, 1, 0, 1));
        DUE.is("copy: CAST", -12, x.copy(1, 0, 0, 0, 1));
        DUE.is("copy: NULL from", -11, x.copy(2, 0, 0, 0, 1));
        DUE.is("copy: NULL to", -11, x.copy(0, -1, 2, 0, 1));
        DUE.is("copy: NULL of one", -11, x.copy(2, 0, 2, 0, 0));
        DUE.is("copy: from 4", -1, x.copy(4, 0, 2, 0, 1));
        DUE.is("copy: from -1", -1, x.copy(-1, 0, 0, 0, 1));
        DUE.is("copy: to 4", -1, x.copy(2, 0, 4, 0, 1));
        DUE.is("copy: to -1", -1, x.copy(0, 0, -1, 0, 1));
    }
}
