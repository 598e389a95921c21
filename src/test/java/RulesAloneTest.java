/** Promises 21 to 28. */
public final class RulesAloneTest {
    private static final Due DUE = new Due();
    private static final long BAD_BELOW = -1000000000000000001L;

    public static void main(String[] args) {
        promise21Alone();
        promise22Bounds();
        promise23Heap();
        promise23HeapAllWills();
        promise24Beside();
        promise25Fights();
        promise26Fall();
        promise27And28ImageRestore();
        promise28RestoreLeavesSheetsAndTape();
        DUE.end();
    }

    private static void promise21Alone() {
        BookOfWills x = new BookOfWills();
        Due.rules(x, "0:;3:f6L;5:f100");
        Due.wills(x, "00m5;00m5l5");
        // Of a thousandth, YEAR 0: 5 of 10; by RULES of 3 10 of 10; by RULES of 5 none.
        DUE.is("alone: own RULES", 0, x.alone(0, 0, 1));
        DUE.is("alone: other RULES", 50000, x.alone(0, 3, 1));
        DUE.is("alone: by which none has a SHARE", -50000, x.alone(0, 5, 1));
        DUE.is("alone: like RULES", 0, x.alone(0, 1, 1));
        Due.wills(x, "50m5;50m5");
        DUE.is("alone: none as it is", 50000, x.alone(5, 0, 1));
        DUE.is("alone: no WILLS", 0, x.alone(7, 0, 1));
        DUE.is("alone: PEOPLE stay those of the YEAR", 1000, x.people(3, 0, 1));
        DUE.is("alone: PEOPLE stay those of the YEAR", 50000, x.alone(0, 3, 1));
        DUE.is("alone: year 8", BAD_BELOW, x.alone(8, 0, 1));
        DUE.is("alone: year -1", BAD_BELOW, x.alone(-1, 0, 1));
        DUE.is("alone: of 8", BAD_BELOW, x.alone(0, 8, 1));
        DUE.is("alone: of -1", BAD_BELOW, x.alone(0, -1, 1));
        DUE.is("alone: q 0", BAD_BELOW, x.alone(0, 0, 0));
        DUE.is("alone: q 1001", BAD_BELOW, x.alone(0, 0, 1001));
    }

    private static void promise22Bounds() {
        BookOfWills x = new BookOfWills();
        Due.rules(x, "0:;5:f9999");
        Due.wills(x, "00m6;00m4;00m0l5;50m8;60m0g3");
        // THE TOP has 600 of 1000, 500 are unseen.
        DUE.is("bounds: least", 40000, x.bounds(0, 1, 0));
        DUE.is("bounds: most", 73333, x.bounds(0, 1, 1));
        DUE.is("bounds: least of all", 66666, x.bounds(0, 1000, 0));
        DUE.is("bounds: most of all", 100000, x.bounds(0, 1000, 1));
        x.people(0, 0, 1);
        // Half a hundredth has 3.
        DUE.is("bounds: least, exactly", 200, x.bounds(0, 5, 0));
        DUE.is("bounds: most, exactly", 33533, x.bounds(0, 5, 1));
        DUE.is("bounds: NONE, for all that was HAD is SWORN", -4, x.bounds(5, 1, 0));
        DUE.is("bounds: all is unseen, least", 0, x.bounds(6, 1, 0));
        DUE.is("bounds: all is unseen, most", 100000, x.bounds(6, 1, 1));
        DUE.is("bounds: NONE", -4, x.bounds(1, 1, 1));
        DUE.is("bounds: BAD ahead of NONE", -1, x.bounds(1, 1, 2));
        DUE.is("bounds: what -1", -1, x.bounds(0, 1, -1));
        DUE.is("bounds: q 0", -1, x.bounds(0, 0, 0));
        DUE.is("bounds: q 1001", -1, x.bounds(0, 1001, 0));
        DUE.is("bounds: year 8", -1, x.bounds(8, 1, 0));
        DUE.is("bounds: year -1", -1, x.bounds(-1, 1, 0));
    }

    private static void dueHeap(BookOfWills x, int years, int w, int[] want) {
        for (int what = 0; what < 4; what++) {
            DUE.is("heap(" + years + ", " + w + ", " + what + ")", want[what], x.heap(years, w, what));
        }
    }

    private static void promise23Heap() {
        BookOfWills x = new BookOfWills();
        Due.rules(x, "0:l500h3;1:l100h7;2:h999;3:l50");
        Due.wills(x, "00m489;00m490;00m499;00m500;00m503;00m504;00m510;00m511");
        Due.wills(x, "10m100;10m107;10m108;20m10;20m500;30m50;30m51");
        // YEAR 0 swears 489 490 499 500 500 504 510 511; YEAR 1 100 100 108; YEAR 3 50 51.
        dueHeap(x, 1, 10, new int[] {2, 6, 4, 2});
        dueHeap(x, 1, 11, new int[] {2, 6, 5, 3});
        dueHeap(x, 1, 4, new int[] {2, 6, 3, 1});
        dueHeap(x, 1, 3, new int[] {3, 9, 3, 0});
        dueHeap(x, 2, 8, new int[] {1, 7, 2, 1});
        dueHeap(x, 2, 7, new int[] {2, 14, 2, 0});
        dueHeap(x, 3, 10, new int[] {3, 21, 6, 3});
        dueHeap(x, 4, 999, new int[] {0, 0, 0, 0});
        dueHeap(x, 5, 10, new int[] {2, 6, 4, 2});
        dueHeap(x, 8, 1, new int[] {0, 0, 1, 1});
        dueHeap(x, 255, 10, new int[] {3, 21, 7, 4});
        dueHeap(x, 128, 10, new int[] {0, 0, 0, 0});
        BookOfWills one = new BookOfWills();
        Due.rules(one, "0:l1h1");
        Due.wills(one, "00m2;00m3;00m0");
        dueHeap(one, 1, 1, new int[] {2, 2, 2, 0});
        dueHeap(one, 1, 2, new int[] {1, 1, 2, 1});
        x.burn(13);
        dueHeap(x, 8, 1, new int[] {0, 0, 0, 1});
        DUE.is("heap: no YEAR", -1, x.heap(0, 1, 0));
        DUE.is("heap: YEAR 8", -1, x.heap(256, 1, 0));
        DUE.is("heap: below 0", -1, x.heap(-1, 1, 0));
        DUE.is("heap: w 0", -1, x.heap(1, 0, 0));
        DUE.is("heap: w 1000", -1, x.heap(1, 1000, 0));
        DUE.is("heap: what 4", -1, x.heap(1, 1, 4));
        DUE.is("heap: what -1", -1, x.heap(1, 1, -1));
    }

    /** The document speaks of WILLS here, not of THE BOOK. */
    private static void promise23HeapAllWills() {
        BookOfWills x = new BookOfWills();
        Due.rules(x, "0:f9999l500h3");
        Due.wills(x, "00m499;00m502;00w700");
        dueHeap(x, 1, 10, new int[] {2, 6, 2, 0});
        dueHeap(x, 1, 999, new int[] {3, 9, 3, 0});
    }

    private static void promise24Beside() {
        BookOfWills x = new BookOfWills();
        long most = 1000000000000000L;
        DUE.is("beside", 1, x.beside(0, 0, 0));
        DUE.is("beside: the greatest", 1, x.beside(7, most, most));
        DUE.is("beside: above the greatest", -1, x.beside(1, 0, most + 1));
        DUE.is("beside: above the greatest", -1, x.beside(1, most + 1, most + 1));
        DUE.is("beside: the least is more", -1, x.beside(1, 2, 1));
        DUE.is("beside: below 0", -1, x.beside(1, -1, 1));
        DUE.is("beside: below 0", -1, x.beside(1, -2, -1));
        DUE.is("beside: year 8", -1, x.beside(8, 0, 0));
        DUE.is("beside: year -1", -1, x.beside(-1, 0, 0));
        DUE.is("beside: BAD tells no COUNTS", 2, x.count(5));
        DUE.is("beside: BAD tells no COUNTS", 128, x.fights());
        DUE.is("beside: in place of those told", 1, x.beside(7, 0, most));
        DUE.is("beside: in place of those told", 0, x.fights());
    }

    private static void promise25Fights() {
        BookOfWills x = new BookOfWills();
        Due.rules(x, "0:");
        Due.wills(x, "20m10l5;70m3");
        // YEAR 2: from 1000 to 1500; YEAR 7: 300.
        long[][] counts = {{0, 999}, {0, 1000}, {1000, 1000}, {1200, 1300}, {0, 9999}, {1500, 9999}, {1501, 9999}};
        int[] fight = {1, 0, 0, 0, 0, 0, 1};
        for (int i = 0; i < counts.length; i++) {
            x.beside(2, counts[i][0], counts[i][1]);
            DUE.is("fights: " + counts[i][0] + " to " + counts[i][1], fight[i] * 4, x.fights());
        }
        x.beside(7, 301, 302);
        DUE.is("fights: two", 4 + 128, x.fights());
        x.beside(2, 1000, 1000);
        DUE.is("fights: the last", 128, x.fights());
        x.had(1, 1, 1);
        DUE.is("fights: none any more", 0, x.fights());
        x.beside(0, 1, 1);
        DUE.is("fights: the first", 1, x.fights());
    }

    private static void promise26Fall() {
        BookOfWills x = new BookOfWills();
        Due.rules(x, "0:;3:L");
        Due.wills(x, "00m10l5;30m1l1;30m20");
        x.people(0, 1, 7);
        x.people(3, 1, 3);
        // 1000, by RULES of 3 1500, by PRICES 642 (642.8), then 2200.
        DUE.is("fall: RULES", 500, x.fall(0, 3, 0));
        DUE.is("fall: PRICES", -858, x.fall(0, 3, 1));
        DUE.is("fall: the rest", 1558, x.fall(0, 3, 2));
        // 2200, by RULES of 0 2100, by PRICES 4900, then 1000.
        DUE.is("fall: RULES back", -100, x.fall(3, 0, 0));
        DUE.is("fall: PRICES back", 2800, x.fall(3, 0, 1));
        DUE.is("fall: the rest back", -3900, x.fall(3, 0, 2));
        DUE.is("fall: from nothing", 2200, x.fall(1, 3, 2));
        DUE.is("fall: from nothing", 0, x.fall(1, 3, 1));
        DUE.is("fall: one YEAR", BAD_BELOW, x.fall(3, 3, 0));
        DUE.is("fall: from 8", BAD_BELOW, x.fall(8, 3, 0));
        DUE.is("fall: from -1", BAD_BELOW, x.fall(-1, 3, 0));
        DUE.is("fall: to 8", BAD_BELOW, x.fall(0, 8, 0));
        DUE.is("fall: to -1", BAD_BELOW, x.fall(0, -1, 0));
        DUE.is("fall: what 3", BAD_BELOW, x.fall(0, 3, 3));
        DUE.is("fall: what -1", BAD_BELOW, x.fall(0, 3, -1));
    }

    private static void promise27And28ImageRestore() {
        BookOfWills x = new BookOfWills();
        DUE.is("restore: NONE", -4, x.restore());
        Due.rules(x, "0:f1l2h3LGTW");
        Due.wills(x, "00m5;75w6l7g8t9");
        x.lives(5, 4);
        x.set(0, 3);
        x.set(1, 2);
        x.people(6, 0, 66);
        x.people(6, 1, 67);
        x.beside(4, 1, 2);
        x.beside(0, 0, 199);
        DUE.is("image", 1, x.image());
        for (int again = 0; again < 2; again++) {
            Due.rules(x, "0:f9999");
            x.burn(0);
            x.had(0, 3, 1);
            x.lives(5, 400);
            x.set(0, 0);
            x.set(1, 0);
            x.people(6, 0, 1);
            x.people(6, 1, 1);
            x.beside(4, 0, 1000);
            x.beside(0, 0, 1000);
            x.beside(5, 5, 5);
            x.draw(1, 1, 20);
            DUE.is("restore", 1, x.restore());
            DUE.is("restore: WILLS", 2, x.count(0));
            DUE.is("restore: COUNTS", 2, x.count(5));
            // What is SWORN in YEAR 0 is the LINE, 2, for 100 hundredths: more than 199.
            DUE.is("restore: COUNTS of YEARS 0, 4", 17, x.fights());
            for (int what = 0; what < 4; what++) {
                DUE.is("restore: RULES", new int[] {1, 2, 3, 15}[what], x.rule(7, what));
                DUE.is("restore: first WILL", new int[] {5, 0, 0, 0}[what], x.had(0, what, 100));
                DUE.is("restore: second WILL", 6 + what, x.had(1, what, 100));
            }
            DUE.is("restore: YEAR", 7, x.told(1, 0));
            DUE.is("restore: AGE", 5, x.told(1, 1));
            DUE.is("restore: sex", 1, x.told(1, 2));
            DUE.is("restore: LIVES", 4, x.lives(5, 9));
            DUE.is("restore: RICHES", 3, x.set(0, 9));
            DUE.is("restore: MORE", 2, x.set(1, 9));
            DUE.is("restore: PEOPLE", 66, x.people(6, 0, 9));
            DUE.is("restore: PRICES", 67, x.people(6, 1, 9));
        }
        x.burn(0);
        x.burn(0);
        DUE.is("image: in place of the other", 1, x.image());
        x.draw(1, 1, 1);
        DUE.is("restore: the new one", 1, x.restore());
        DUE.is("restore: the new one", 0, x.count(0));
    }

    private static void promise28RestoreLeavesSheetsAndTape() {
        BookOfWills x = new BookOfWills();
        x.sheet(0, 2, 3);
        Due.typed(x, "0:");
        x.image();
        x.sheet(1, 0, 7);
        x.drop(0);
        Due.typed(x, "f5");
        x.restore();
        DUE.is("restore: SHEETS stay", -11, x.drop(0));
        DUE.is("restore: SHEETS stay", 7, x.drop(1));
        DUE.is("restore: THE TAPE stays", 1, x.rules());
        DUE.is("restore: THE TAPE stays", 5, x.rule(0, 0));
    }
}
