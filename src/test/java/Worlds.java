/** Objects with something in them, for tests of what a call leaves as it was. */
final class Worlds {
    /** How many WILLS some has. */
    static final int WILLS = 10;

    private Worlds() {
    }

    /** Nearly all is other than at first: SHEET 2 alone holds nothing, THE TAPE holds 11 bytes, and the IMAGE is other again. */
    static long some(BookOfWills x) {
        Due.rules(x, "0:f3l500h20LW;3:f1l40h7LGTW;5:");
        Due.wills(x, "00m5;75w6l7g8t9;32m700");
        x.lives(5, 4);
        x.set(0, 3);
        x.set(1, 2);
        x.people(6, 0, 66);
        x.people(6, 1, 67);
        x.beside(4, 100, 200);
        x.image();
        Due.rules(x, "0:f2l500h20L;3:f1l40h7LGTW;6:");
        Due.wills(x, "00m510;01m20l3g4t5;33m45;30w9;30m2;52m7;64m99");
        x.had(1, 0, 77);
        x.lives(0, 2);
        x.lives(3, 9);
        x.set(0, 45);
        x.set(1, 30);
        x.people(0, 0, 50);
        x.people(3, 0, 7);
        x.people(3, 1, 55);
        x.beside(3, 500, 700);
        x.beside(6, 0, 0);
        row(x, 0, 2, 24, 100);
        row(x, 1, 0, 8, 11);
        row(x, 3, 2, 16, 7000);
        return Due.typed(x, "0:f5;6:l8h1");
    }

    /** As some, with 24 WILLS. */
    static long full(BookOfWills x) {
        some(x);
        return x.draw(7, 2, 24 - WILLS);
    }

    /** As some, with 96 bytes on THE TAPE. */
    static long longTape(BookOfWills x) {
        some(x);
        int size = Due.typed(x, "     ");
        while (size < 96) {
            size = x.type(0x2020202020202020L, 8);
        }
        return size;
    }

    /** A new row of a SHEET with items first, first and 1, and so on. */
    static void row(BookOfWills x, int sheet, int lane, int n, int first) {
        x.sheet(sheet, lane, n);
        for (int i = 0; i < n; i++) {
            x.item(sheet, lane, i, first + i);
        }
    }
}
