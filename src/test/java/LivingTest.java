/** Promises 15 to 20. */
public final class LivingTest {
    private static final Due DUE = new Due();

    public static void main(String[] args) {
        promise15Total();
        promise16Share();
        promise16ShareGreatest();
        promise17Maker();
        promise18Span();
        promise19Smooth();
        promise20Jump();
        DUE.end();
    }

    private static void promise15Total() {
        BookOfWills x = new BookOfWills();
        x.lives(1, 3);
        Due.rules(x, "0:f100l500h20L;4:");
        Due.wills(x, "20m510;21m100l50;20w700;21m50g7;20m300t8;30m999");
        // SWORN 500, 150, 0 (a woman's), 50 (below the FLOOR), 300.
        DUE.is("total: TOTAL", 500 * 100 + 150 * 300 + 300 * 100, x.total(2, 0));
        DUE.is("total: UNSEEN", 10 * 100 + 700 * 100 + 7 * 300 + 8 * 100, x.total(2, 1));
        DUE.is("total: of another YEAR", 99900, x.total(3, 0));
        x.set(0, 300);
        x.set(1, 50);
        DUE.is("total: RICH stand for more", 500 * 150 + 150 * 300 + 300 * 150, x.total(2, 0));
        DUE.is("total: UNSEEN of RICH", 10 * 150 + 700 * 100 + 7 * 300 + 8 * 150, x.total(2, 1));
        x.set(0, 0);
        DUE.is("total: not in THE BOOK, at 100 LIVES", 10 * 150 + 700 * 100 + 7 * 300 + 8 * 150, x.total(2, 1));
        DUE.is("total: year 8", -1, x.total(8, 0));
        DUE.is("total: year -1", -1, x.total(-1, 0));
        DUE.is("total: what 2", -1, x.total(0, 2));
        DUE.is("total: what -1", -1, x.total(0, -1));
        DUE.is("total: no WILLS", 0, x.total(0, 0));
    }

    private static void dueShare(BookOfWills x, int q, long above, long below, long parts) {
        DUE.is("share: above of " + q, above, x.share(0, q, 0));
        DUE.is("share: below of " + q, below, x.share(0, q, 1));
        DUE.is("share: PARTS of " + q, parts, x.share(0, q, 2));
    }

    private static BookOfWills two() {
        BookOfWills x = new BookOfWills();
        x.lives(1, 3);
        Due.wills(x, "01m4;00m9");
        return x;
    }

    private static void promise16Share() {
        BookOfWills x = two();
        // 9 stands for 100 hundredths, 4 for 300: TOTAL is 2100, a thousandth of the PEOPLE are 100 hundredths.
        dueShare(x, 1, 3, 7, 42857);
        dueShare(x, 2, 13, 21, 61904);
        dueShare(x, 3, 17, 21, 80952);
        dueShare(x, 4, 1, 1, 100000);
        dueShare(x, 1000, 1, 1, 100000);
        x.people(0, 0, 1);
        // Half a hundredth: 4.5 by 2100.
        dueShare(x, 5, 3, 1400, 214);
        dueShare(x, 1, 3, 7000, 42);
        dueShare(x, 1000, 3, 7, 42857);
        DUE.is("share: NONE", -4, x.share(1, 1, 0));
        DUE.is("share: NONE", -4, x.share(1, 1, 2));
        DUE.is("share: BAD ahead of NONE", -1, x.share(1, 1, 3));
        DUE.is("share: what -1", -1, x.share(0, 1, -1));
        DUE.is("share: q 0", -1, x.share(0, 0, 0));
        DUE.is("share: q 1001", -1, x.share(0, 1001, 0));
        DUE.is("share: year 8", -1, x.share(8, 1, 0));
        DUE.is("share: year -1", -1, x.share(-1, 1, 0));
        Due.rules(x, "0:f10");
        DUE.is("share: NONE, for none is in THE BOOK", -4, x.share(0, 1, 0));
    }

    private static void promise16ShareGreatest() {
        BookOfWills x = new BookOfWills();
        x.lives(0, 400);
        x.set(0, 0);
        x.set(1, 100);
        x.people(0, 0, 999999);
        Due.rules(x, "0:LGT");
        for (int i = 0; i < 24; i++) {
            x.will(0, 0, 0, 9999);
            for (int what = 1; what < 4; what++) {
                x.had(i, what, 9999);
            }
        }
        DUE.is("share: the greatest TOTAL", 24L * 39996 * 80000, x.total(0, 0));
        dueShare(x, 1000, 1, 1, 100000);
        // 99999.9 hundredths of 1920000.
        dueShare(x, 1, 333333, 6400000, 5208);
        // Without any one of them, of 1840000.
        DUE.is("maker: of 24 like ones", 0, x.maker(0, 1, 0));
        DUE.is("maker: of 24 like ones", 5434, x.maker(0, 1, 1));
        DUE.is("span: of 24 like ones", 5208, x.span(0, 1, 0));
        DUE.is("span: of 24 like ones", 5434, x.span(0, 1, 1));
    }

    private static void promise17Maker() {
        BookOfWills x = two();
        // As it is 61904; without 4 it is 100000, without 9 it is 66666.
        DUE.is("maker: of 2", 0, x.maker(0, 2, 0));
        DUE.is("maker: PARTS without it", 100000, x.maker(0, 2, 1));
        // As it is 42857; without 4 100000, without 9 33333.
        DUE.is("maker: of 1", 0, x.maker(0, 1, 0));
        DUE.is("maker: of like ones the first", 0, x.maker(0, 1000, 0));
        DUE.is("maker: of like ones the first", 100000, x.maker(0, 1000, 1));
        x.burn(0);
        DUE.is("maker: the only one", 0, x.maker(0, 1, 0));
        DUE.is("maker: none counts as 0", 0, x.maker(0, 1, 1));
        DUE.is("maker: NONE", -4, x.maker(1, 1, 0));
        DUE.is("maker: BAD ahead of NONE", -1, x.maker(1, 1, 2));
        DUE.is("maker: what -1", -1, x.maker(0, 1, -1));
        DUE.is("maker: q 0", -1, x.maker(0, 0, 0));
        DUE.is("maker: q 1001", -1, x.maker(0, 1001, 0));
        DUE.is("maker: year 8", -1, x.maker(8, 1, 0));
        DUE.is("maker: year -1", -1, x.maker(-1, 1, 0));

        BookOfWills z = new BookOfWills();
        z.lives(1, 3);
        Due.wills(z, "01m4;00m5;00m90");
        // Of a thousandth: 90 of 107, that is 84112; without 4 94736, without 5 88235, without 90 29411 (5 of 17).
        DUE.is("maker: by less", 2, z.maker(0, 1, 0));
        DUE.is("maker: by less", 29411, z.maker(0, 1, 1));
        DUE.is("maker: the first, not the richest", 0, z.maker(0, 1000, 0));
        z.had(2, 0, 0);
        // 5 of 17 is 29411; without 4 all, without 5 33333.
        DUE.is("maker: by more", 0, z.maker(0, 1, 0));

        BookOfWills y = new BookOfWills();
        Due.rules(y, "0:f5");
        Due.wills(y, "00m4;10m9;00m5;00m5");
        // WILLS 0 (SMALL) and 1 (of another YEAR) are not among these.
        DUE.is("maker: of THE BOOK of the YEAR", 2, y.maker(0, 1000, 0));
        y.people(0, 0, 1);
        DUE.is("maker: like ones", 2, y.maker(0, 1000, 0));
        DUE.is("maker: like ones", 100000, y.maker(0, 1000, 1));
    }

    private static void promise18Span() {
        BookOfWills x = two();
        DUE.is("span: least of 2 is as it is", 61904, x.span(0, 2, 0));
        DUE.is("span: most of 2", 100000, x.span(0, 2, 1));
        DUE.is("span: least of 1", 33333, x.span(0, 1, 0));
        DUE.is("span: most of 1", 100000, x.span(0, 1, 1));
        x.burn(0);
        DUE.is("span: none counts as 0", 0, x.span(0, 1, 0));
        DUE.is("span: most is as it is", 100000, x.span(0, 1, 1));
        DUE.is("span: NONE", -4, x.span(1, 1, 0));
        DUE.is("span: BAD ahead of NONE", -1, x.span(1, 1, 2));
        DUE.is("span: what -1", -1, x.span(0, 1, -1));
        DUE.is("span: q 0", -1, x.span(0, 0, 0));
        DUE.is("span: q 1001", -1, x.span(0, 1001, 0));
        DUE.is("span: year 8", -1, x.span(8, 1, 0));
        DUE.is("span: year -1", -1, x.span(-1, 1, 0));
    }

    private static void promise19Smooth() {
        BookOfWills x = new BookOfWills();
        x.lives(1, 3);
        // Of a thousandth: YEAR 0 has 900 of 2100, YEAR 2 500 of 1000, YEAR 5 700 of 700, YEAR 7 200 of 600.
        Due.wills(x, "00m9;01m4;20m5;20m5;50m7;71m2");
        DUE.is("smooth: 0", 42857, x.smooth(0, 1, 0));
        DUE.is("smooth: 0 by 1", 42857, x.smooth(0, 1, 1));
        DUE.is("smooth: 0 by 2", 1400 * 100000 / 3100, x.smooth(0, 1, 2));
        DUE.is("smooth: 1 by 1", 1400 * 100000 / 3100, x.smooth(1, 1, 1));
        DUE.is("smooth: 2 by 3", 2100 * 100000 / 3800, x.smooth(2, 1, 3));
        DUE.is("smooth: 7 by 3", 900 * 100000 / 1300, x.smooth(7, 1, 3));
        DUE.is("smooth: 7 by 1", 33333, x.smooth(7, 1, 1));
        x.people(0, 0, 5);
        // Half a hundredth of YEAR 0.
        DUE.is("smooth: exactly", 45 * 10000 / 2100, x.smooth(0, 1, 1));
        DUE.is("smooth: NONE", -4, x.smooth(1, 1, 0));
        DUE.is("smooth: NONE", -4, x.smooth(3, 1, 0));
        DUE.is("smooth: BAD ahead of NONE", -1, x.smooth(1, 1, 4));
        DUE.is("smooth: k -1", -1, x.smooth(0, 1, -1));
        DUE.is("smooth: q 0", -1, x.smooth(0, 0, 0));
        DUE.is("smooth: q 1001", -1, x.smooth(0, 1001, 0));
        DUE.is("smooth: year 8", -1, x.smooth(8, 1, 0));
        DUE.is("smooth: year -1", -1, x.smooth(-1, 1, 0));
    }

    private static void jumpByOwnRules() {
        BookOfWills x = new BookOfWills();
        Due.rules(x, "0:;1:f5;2:L");
        Due.wills(x, "00m4;00m4;10m4;10m6;20m0l3;20m3");
        // YEAR 0: 50000; YEAR 1, where 4 is SMALL: 100000; YEAR 2, where land is SEEN: 50000.
        DUE.is("jump: each YEAR by its own RULES", 0, x.jump(1, 0));
        DUE.is("jump: each YEAR by its own RULES", 50000, x.jump(1, 1));
        DUE.is("jump: of like ones the first", 50000, x.share(2, 1, 2));
    }

    private static void promise20Jump() {
        BookOfWills x = new BookOfWills();
        x.lives(1, 3);
        DUE.is("jump: NONE", -4, x.jump(1, 0));
        DUE.is("jump: NONE", -4, x.jump(1, 1));
        Due.wills(x, "20m5");
        DUE.is("jump: NONE of one", -4, x.jump(1, 0));
        Due.wills(x, "01m9");
        DUE.is("jump: NONE over a gap", -4, x.jump(1, 0));
        DUE.is("jump: NONE over a gap", -4, x.jump(1, 1));
        Due.wills(x, "71m3;60m3");
        // YEARS 0: 33333, 2: 100000, 6: 100000, 7: 33333.
        DUE.is("jump: down, the last pair", 6, x.jump(1, 0));
        DUE.is("jump: down, the last pair", 66667, x.jump(1, 1));
        Due.wills(x, "31m3;40m5;40m5");
        // YEAR 3: 33333, YEAR 4: 50000: from 2 to 3 as much as from 6 to 7.
        DUE.is("jump: of like ones the first", 2, x.jump(1, 0));
        DUE.is("jump: of like ones the first", 66667, x.jump(1, 1));
        DUE.is("jump: by 0", 2, x.jump(1000, 0));
        DUE.is("jump: by 0", 0, x.jump(1000, 1));
        jumpByOwnRules();
        DUE.is("jump: what 2", -1, x.jump(1, 2));
        DUE.is("jump: what -1", -1, x.jump(1, -1));
        DUE.is("jump: q 0", -1, x.jump(0, 0));
        DUE.is("jump: q 1001", -1, x.jump(1001, 0));
    }
}
