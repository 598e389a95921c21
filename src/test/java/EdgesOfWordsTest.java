/** The edges that the document's words name ahead of its promises, a method for each sentence (texts: EdgesOfTextsTest). */
public final class EdgesOfWordsTest {
    private static final Due DUE = new Due();

    public static void main(String[] args) {
        livesOfAges();
        richesOrMore();
        richesAtFirst();
        moreHundredths();
        willsAsTheyCome();
        thingsHad();
        rulesAtFirst();
        seenByMarks();
        swornIsTheLine();
        swornElse();
        inTheBook();
        weight();
        kindInThisOrder();
        byRulesOfIt();
        othersHaveNothing();
        peopleOfAYear();
        totalIsTheSum();
        topTheMostFirst();
        topExactly();
        shareInLowestTerms();
        partsAreCut();
        noShare();
        makerOfLikeOnes();
        makerWithoutNone();
        spanAsItIsToo();
        smoothThoseThatThereAre();
        jumpButTheLast();
        jumpPassedBy();
        DUE.end();
    }

    private static BookOfWills with(String rules, String wills) {
        BookOfWills x = new BookOfWills();
        DUE.is("rules '" + rules + "' are good: 1", 1, rules.isEmpty() || Due.rules(x, rules) > 0 ? 1 : 0);
        DUE.is("wills '" + wills + "' are good: 1", 1, wills.isEmpty() || Due.wills(x, wills) > 0 ? 1 : 0);
        return x;
    }

    // ---- 1

    private static void livesOfAges() {
        DUE.says("AGES 0 .. 5, each with LIVES (1 .. 400; 1 at first)");
        BookOfWills x = with("", "00m1;01m1;02m1;03m1;04m1;05m1");
        for (int age = 0; age < 6; age++) {
            DUE.is("WEIGHT at first of AGE " + age, 100, x.told(age, 6));
            DUE.is("at first", 1, x.lives(age, 400));
            DUE.is("WEIGHT by 400", 40000, x.told(age, 6));
            for (int other = age + 1; other < 6; other++) {
                DUE.is("WEIGHT of another AGE", 100, x.told(other, 6));
            }
        }
        for (int age = 0; age < 6; age++) {
            DUE.is("what they were", 400, x.lives(age, 1));
            DUE.is("WEIGHT by 1", 100, x.told(age, 6));
        }
    }

    private static void richesOrMore() {
        DUE.says("RICH is who has RICHES or more");
        BookOfWills x = with("", "00m499;00m500;00m501");
        x.set(0, 500);
        x.set(1, 10);
        DUE.is("WEIGHT of 499", 100, x.told(0, 6));
        DUE.is("WEIGHT of 500", 110, x.told(1, 6));
        DUE.is("WEIGHT of 501", 110, x.told(2, 6));
        DUE.is("KIND of 499", 0, x.told(0, 7));
        DUE.is("KIND of 500", 3, x.told(1, 7));
        DUE.is("KIND of 501", 3, x.told(2, 7));
        x.set(0, 0);
        DUE.is("by 0, KIND of 499", 3, x.told(0, 7));
        x.had(0, 0, 0);
        DUE.is("by 0, WEIGHT of 0", 110, x.told(0, 6));
        DUE.is("by 0, KIND of 0, which is not in THE BOOK", 1, x.told(0, 7));
    }

    private static void richesAtFirst() {
        DUE.says("RICHES (0 .. 99999; 99999 at first)");
        BookOfWills x = with("0:LGTW", "00m9999l9999g9999t9999");
        x.set(1, 100);
        DUE.is("SWORN, the most there is", 39996, x.told(0, 4));
        DUE.is("none is RICH at first", 0, x.told(0, 7));
        DUE.is("none is RICH at first: WEIGHT", 100, x.told(0, 6));
        DUE.is("at first", 99999, x.set(0, 39997));
        DUE.is("just not RICH", 0, x.told(0, 7));
        x.set(0, 39996);
        DUE.is("just RICH", 3, x.told(0, 7));
        DUE.is("just RICH: WEIGHT", 200, x.told(0, 6));
    }

    private static void moreHundredths() {
        DUE.says("these stand for MORE (0 .. 100; 0 at first) hundredths more");
        BookOfWills x = with("", "00m5");
        x.lives(0, 3);
        x.set(0, 5);
        DUE.is("RICH at first stand for no more", 300, x.told(0, 6));
        DUE.is("at first", 0, x.set(1, 1));
        DUE.is("by 1", 303, x.told(0, 6));
        DUE.is("what it was", 1, x.set(1, 100));
        DUE.is("by 100", 600, x.told(0, 6));
        x.lives(0, 400);
        DUE.is("by 100, the greatest WEIGHT", 80000, x.told(0, 6));
        x.set(1, 0);
        DUE.is("by 0", 40000, x.told(0, 6));
    }

    private static void willsAsTheyCome() {
        DUE.says("WILLS 0 .. 23, as they come");
        BookOfWills x = new BookOfWills();
        DUE.is("the first", 0, x.will(7, 0, 0, 9));
        DUE.is("of an earlier YEAR, with less", 1, x.will(0, 0, 0, 1));
        Due.wills(x, "30m3;20m2");
        x.draw(5, 1, 19);
        DUE.is("the last", 23, x.will(4, 5, 1, 8));
        int[] years = {7, 0, 3, 2};
        for (int will = 0; will < 24; will++) {
            DUE.is("YEAR of " + will, will < 4 ? years[will] : will == 23 ? 4 : 1, x.told(will, 0));
        }
    }

    private static void thingsHad() {
        DUE.says("who HAD money, land, gifts, trusts (0 .. 9999 each)");
        BookOfWills x = with("0:LGTW", "00m0");
        int seen = 0;
        for (int what = 0; what < 4; what++) {
            DUE.is("what it was", 0, x.had(0, what, 9999));
            seen += 9999;
            DUE.is("SEEN", seen, x.told(0, 3));
        }
        for (int what = 0; what < 4; what++) {
            DUE.is("what it was", 9999, x.had(0, what, 0));
        }
        DUE.is("SEEN", 0, x.told(0, 3));
    }

    private static void rulesAtFirst() {
        DUE.says("FLOOR, LINE, KEEN (0 at first), and marks (9 at first: L and W)");
        BookOfWills x = new BookOfWills();
        for (int year = 0; year < 8; year++) {
            for (int what = 0; what < 4; what++) {
                DUE.is("rule(" + year + ", " + what + ")", what == 3 ? 9 : 0, x.rule(year, what));
            }
        }
        Due.wills(x, "00m1l20g300t4000;70w1l20g300t4000");
        DUE.is("SEEN of a man's", 21, x.told(0, 3));
        DUE.is("SEEN of a woman's", 21, x.told(1, 3));
    }

    private static void seenByMarks() {
        DUE.says("nothing of a woman's without W; else money, and land by L, gifts by G, trusts by T");
        for (int marks = 0; marks < 16; marks++) {
            String rules = "0:" + ((marks & 1) != 0 ? "L" : "") + ((marks & 2) != 0 ? "G" : "") + ((marks & 4) != 0 ? "T" : "")
                + ((marks & 8) != 0 ? "W" : "");
            BookOfWills x = with(rules, "30m1l20g300t4000;30w1l20g300t4000");
            int man = 1 + (marks & 1) * 20 + (marks >> 1 & 1) * 300 + (marks >> 2 & 1) * 4000;
            DUE.is(rules + " marks", marks, x.rule(3, 3));
            DUE.is(rules + " a man's", man, x.told(0, 3));
            DUE.is(rules + " a woman's", marks >= 8 ? man : 0, x.told(1, 3));
            DUE.is(rules + " a woman's in THE BOOK", marks >= 8 ? 1 : 0, x.told(1, 5));
        }
    }

    private static void dueSworn(String rules, int seen, int sworn) {
        BookOfWills x = with(rules, "00m" + Math.min(seen, 9999) + "l" + Math.max(seen - 9999, 0));
        DUE.is(rules + " SEEN", seen, x.told(0, 3));
        DUE.is(rules + " SWORN of " + seen, sworn, x.told(0, 4));
    }

    private static void swornIsTheLine() {
        DUE.says("It is SWORN: the LINE, if the LINE is above 0, and SEEN is above it by KEEN or less");
        dueSworn("0:l500h20L", 500, 500);
        dueSworn("0:l500h20L", 501, 500);
        dueSworn("0:l500h20L", 519, 500);
        dueSworn("0:l500h20L", 520, 500);
        dueSworn("0:l500h1L", 501, 500);
        dueSworn("0:l1h1L", 2, 1);
        dueSworn("0:l1h999L", 1000, 1);
        dueSworn("0:l9999h999L", 10000, 9999);
        dueSworn("0:l9999h999L", 10998, 9999);
    }

    private static void swornElse() {
        DUE.says("else all that is SEEN");
        dueSworn("0:l500h20L", 499, 499);
        dueSworn("0:l500h20L", 521, 521);
        dueSworn("0:l500h20L", 0, 0);
        dueSworn("0:l500h1L", 502, 502);
        dueSworn("0:l500L", 501, 501);
        dueSworn("0:l500L", 500, 500);
        dueSworn("0:h999L", 1, 1);
        dueSworn("0:h999L", 999, 999);
        dueSworn("0:h999L", 0, 0);
        dueSworn("0:l1h999L", 0, 0);
        dueSworn("0:l1h999L", 1001, 1001);
        dueSworn("0:l9999h999L", 9998, 9998);
        dueSworn("0:l9999h999L", 10999, 10999);
    }

    private static void dueInBook(String rules, int money, int inBook) {
        DUE.is(rules + " in THE BOOK with " + money, inBook, with(rules, "00m" + money).told(0, 5));
    }

    private static void inTheBook() {
        DUE.says("It is in THE BOOK, if what is SWORN is above 0, the FLOOR or more");
        dueInBook("0:", 0, 0);
        dueInBook("0:", 1, 1);
        dueInBook("0:f1", 0, 0);
        dueInBook("0:f1", 1, 1);
        dueInBook("0:f2", 1, 0);
        dueInBook("0:f9999", 9998, 0);
        dueInBook("0:f9999", 9999, 1);
        // By what is SWORN, not by what is SEEN.
        dueInBook("0:f101l100h9", 105, 0);
        dueInBook("0:f100l100h9", 105, 1);
        dueInBook("0:f100l100h9", 99, 0);
        dueInBook("0:f101l100h9", 110, 1);
    }

    private static void weight() {
        DUE.says("Its WEIGHT: 100 LIVES; if what is SWORN is RICHES or more, (100 and MORE) LIVES");
        BookOfWills x = with("0:l100h9", "03m109;03m110;03m99");
        x.lives(3, 7);
        x.set(1, 13);
        x.set(0, 101);
        DUE.is("SWORN 100 of 109", 700, x.told(0, 6));
        DUE.is("SWORN 110", 791, x.told(1, 6));
        x.set(0, 100);
        DUE.is("SWORN 100 of 109", 791, x.told(0, 6));
        DUE.is("SWORN 99", 700, x.told(2, 6));
    }

    private static void kindInThisOrder() {
        DUE.says("1 SMALL (not in THE BOOK), else 2 ROUNDED (SWORN is not SEEN), else 3 RICH, else 0");
        BookOfWills x = with("0:f100l200h9;1:f201l200h9", "00m99;00m100;00m200;00m201;00m209;00m210;10m209;10w300");
        int[] plain = {1, 0, 0, 2, 2, 0, 1, 1};
        int[] rich = {1, 3, 3, 2, 2, 3, 1, 1};
        for (int will = 0; will < 8; will++) {
            DUE.is("KIND of " + will, plain[will], x.told(will, 7));
        }
        x.set(0, 0);
        for (int will = 0; will < 8; will++) {
            DUE.is("KIND of " + will + " if RICHES are 0", rich[will], x.told(will, 7));
        }
    }

    // ---- 2

    private static void dueShare(BookOfWills x, int q, long above, long below, long parts) {
        DUE.is("share of " + q + ", above", above, x.share(0, q, 0));
        DUE.is("share of " + q + ", below", below, x.share(0, q, 1));
        DUE.is("share of " + q + ", PARTS", parts, x.share(0, q, 2));
    }

    private static void othersHaveNothing() {
        DUE.says("all others have nothing");
        BookOfWills x = with("0:f5", "00m5;00m4;10m9");
        dueShare(x, 1, 1, 1, 100000);
        dueShare(x, 1000, 1, 1, 100000);
        DUE.is("TOTAL", 500, x.total(0, 0));
    }

    private static void byRulesOfIt() {
        DUE.says("THE LIVING of a YEAR (by RULES of it, if no others are told)");
        // By its own RULES 8 (5 of it land) and 4; by those of the YEARS beside it neither is in THE BOOK.
        for (int year : new int[] {0, 3, 7}) {
            BookOfWills x = new BookOfWills();
            Due.rules(x, (year > 0 ? "0:f9999;" : "") + year + ":L" + (year < 7 ? ";" + (year + 1) + ":f9999" : ""));
            Due.wills(x, year + "0m3l5;" + year + "0m4");
            DUE.is("TOTAL of " + year, 1200, x.total(year, 0));
            DUE.is("UNSEEN of " + year, 0, x.total(year, 1));
            DUE.is("PARTS of " + year, 66666, x.share(year, 1, 2));
            DUE.is("MAKER of " + year, 0, x.maker(year, 1, 0));
            DUE.is("SPAN of " + year, 66666, x.span(year, 1, 0));
            DUE.is("SMOOTH of " + year, 66666, x.smooth(year, 1, 3));
            DUE.is("BOUNDS of " + year, 66666, x.bounds(year, 1, 0));
        }
        BookOfWills x = with("0:;1:f5;2:L;6:f5;7:L", "00m4;00m4;10m4;10m6;20m0l3;20m3;60m0l9;60m9");
        Due.wills(x, "70m1l1;70m2");
        // PARTS of YEARS 0, 1, 2: 50000, 100000, 50000; of 6, 7: 100000, 50000.
        DUE.is("JUMP", 0, x.jump(1, 0));
        DUE.is("JUMP, by", 50000, x.jump(1, 1));
        x.had(0, 0, 0);
        // YEAR 0 has 100000 now.
        DUE.is("JUMP from 1", 1, x.jump(1, 0));
        x.had(2, 0, 6);
        // YEAR 1 has 50000 now.
        DUE.is("JUMP from 0", 0, x.jump(1, 0));
        x.had(0, 0, 4);
        DUE.is("JUMP to the last", 6, x.jump(1, 0));
        DUE.is("JUMP to the last, by", 50000, x.jump(1, 1));
    }

    private static void peopleOfAYear() {
        DUE.says("PEOPLE of a YEAR are 1 .. 999999 (1000 at first)");
        BookOfWills x = with("", "00m9;00m4");
        DUE.is("at first", 1000, x.people(0, 0, 1));
        dueShare(x, 1, 9, 13000, 69);
        dueShare(x, 999, 8991, 13000, 69161);
        dueShare(x, 1000, 9, 13, 69230);
        DUE.is("1", 1, x.people(0, 0, 2));
        dueShare(x, 1000, 1, 1, 100000);
        // 199.8 hundredths: 900 and 399.2.
        dueShare(x, 999, 1624, 1625, 99938);
    }

    private static void totalIsTheSum() {
        DUE.says("TOTAL is the sum of SWORN times WEIGHT");
        BookOfWills x = new BookOfWills();
        DUE.is("of no WILLS", 0, x.total(7, 0));
        x.will(7, 5, 0, 0);
        DUE.is("of a WILL of nothing", 0, x.total(7, 0));
        x.had(0, 0, 1);
        DUE.is("the least", 100, x.total(7, 0));
        BookOfWills most = greatest();
        DUE.is("the greatest", 24L * 39996 * 80000, most.total(7, 0));
    }

    private static BookOfWills greatest() {
        BookOfWills x = new BookOfWills();
        Due.rules(x, "0:LGTW");
        x.set(0, 0);
        x.set(1, 100);
        x.lives(5, 400);
        for (int will = 0; will < 24; will++) {
            x.will(7, 5, 1, 9999);
            x.had(will, 1, 9999);
            x.had(will, 2, 9999);
            x.had(will, 3, 9999);
        }
        return x;
    }

    private static void topTheMostFirst() {
        DUE.says("WILLS go by what is SWORN, the most first");
        // 12 swears 10: so 11 goes first; the woman's and the one below the FLOOR do not go at all.
        BookOfWills x = with("0:f2l10h2", "00m12;00m11;00m13;00w99;00m1");
        x.people(0, 0, 1000);
        dueShare(x, 1, 13, 33, 39393);
        dueShare(x, 2, 23, 33, 69696);
        dueShare(x, 3, 1, 1, 100000);
        BookOfWills heavy = with("", "01m5;00m6");
        heavy.lives(1, 400);
        dueShare(heavy, 1, 3, 1003, 299);
    }

    private static void topExactly() {
        DUE.says("till q PEOPLE by 10 (exactly, as a fraction) hundredths are full");
        BookOfWills x = with("", "00m9;00m4");
        // One short of full, full, one above: 99.9, 100, 100.1 hundredths.
        x.people(0, 0, 999);
        dueShare(x, 1, 8991, 13000, 69161);
        x.people(0, 0, 1000);
        dueShare(x, 1, 9, 13, 69230);
        x.people(0, 0, 1001);
        dueShare(x, 1, 2251, 3250, 69261);
        // 199.9, 200, 200.1: all that there are.
        x.people(0, 0, 1999);
        dueShare(x, 1, 3249, 3250, 99969);
        x.people(0, 0, 2000);
        dueShare(x, 1, 1, 1, 100000);
        x.people(0, 0, 2001);
        dueShare(x, 1, 1, 1, 100000);
        x.people(0, 0, 999999);
        dueShare(x, 1000, 1, 1, 100000);
    }

    private static void shareInLowestTerms() {
        DUE.says("a fraction in lowest terms");
        BookOfWills x = with("", "00m6;00m6");
        dueShare(x, 1, 1, 2, 50000);
        x.people(0, 0, 1);
        dueShare(x, 1, 1, 2000, 50);
        dueShare(x, 500, 1, 4, 25000);
        BookOfWills most = greatest();
        most.people(7, 0, 999999);
        DUE.is("of the greatest, above", 333333, most.share(7, 1, 0));
        DUE.is("of the greatest, below", 6400000, most.share(7, 1, 1));
    }

    private static void partsAreCut() {
        DUE.says("PARTS: SHARE times 100000 (cut)");
        BookOfWills x = with("", "01m1;00m1;00m1");
        DUE.is("a third", 33333, x.share(0, 1, 2));
        DUE.is("two thirds", 66666, x.share(0, 2, 2));
        x.lives(1, 400);
        x.people(0, 0, 1);
        // A tenth of a hundredth of 40200.
        DUE.is("the least", 0, x.share(0, 1, 2));
        DUE.is("the least, above", 1, x.share(0, 1, 0));
        DUE.is("the least, below", 402000, x.share(0, 1, 1));
        DUE.is("just below 1", 0, x.share(0, 4, 2));
        DUE.is("just above 1", 1, x.share(0, 5, 2));
    }

    private static void noShare() {
        DUE.says("No SHARE, if TOTAL is 0");
        BookOfWills x = with("0:f10", "00m9;00w99;10m10");
        DUE.is("of YEAR 0", -4, x.share(0, 1000, 2));
        DUE.is("of YEAR 1", 100000, x.share(1, 1000, 2));
        DUE.is("of YEAR 2", -4, x.share(2, 1000, 2));
        DUE.is("how many YEARS have one", 1, x.count(4));
    }

    private static void makerOfLikeOnes() {
        DUE.says("MAKER is that WILL without which PARTS are other by most (of like ones the first)");
        // Without one of three like ones a third becomes a half.
        BookOfWills x = with("", "10m7;00m7;00m7;00m7");
        DUE.is("of three like ones", 1, x.maker(0, 1, 0));
        DUE.is("of three like ones, PARTS", 50000, x.maker(0, 1, 1));
        BookOfWills y = with("", "00m2;00m4;00m6");
        // 50000; without 2 60000, without 4 75000, without 6 66666.
        DUE.is("by most, not the first, not the richest", 1, y.maker(0, 1, 0));
        DUE.is("by most, PARTS", 75000, y.maker(0, 1, 1));
        // 75000; without the 1 that stands for three 100000, without 8 50000.
        BookOfWills down = with("", "00m1;01m1;00m8");
        down.lives(1, 3);
        DUE.is("up and down alike, up first", 1, down.maker(0, 2, 0));
        DUE.is("up and down alike, up first, PARTS", 100000, down.maker(0, 2, 1));
        BookOfWills up = with("", "00m1;00m8;01m1");
        up.lives(1, 3);
        DUE.is("up and down alike, down first", 1, up.maker(0, 2, 0));
        DUE.is("up and down alike, down first, PARTS", 50000, up.maker(0, 2, 1));
        // Of all PEOPLE: 100000 without any: by 0.
        DUE.is("by 0", 0, y.maker(0, 1000, 0));
        DUE.is("by 0, PARTS", 100000, y.maker(0, 1000, 1));
    }

    private static void makerWithoutNone() {
        DUE.says("what without it is none counts as 0");
        BookOfWills x = with("0:f3", "00m2;00m3");
        DUE.is("MAKER, the only one in THE BOOK", 1, x.maker(0, 1, 0));
        DUE.is("PARTS without it", 0, x.maker(0, 1, 1));
        DUE.is("SPAN, least", 0, x.span(0, 1, 0));
        DUE.is("SPAN, most", 100000, x.span(0, 1, 1));
        BookOfWills tiny = with("", "00m3");
        tiny.people(0, 0, 1);
        DUE.is("PARTS as it is", 100, tiny.share(0, 1, 2));
        DUE.is("PARTS without it", 0, tiny.maker(0, 1, 1));
    }

    private static void spanAsItIsToo() {
        DUE.says("SPAN: the least, the most PARTS without one of these WILLS (as it is, too)");
        BookOfWills x = with("", "00m2;00m4;00m6");
        DUE.is("least is as it is", 50000, x.span(0, 1, 0));
        DUE.is("most", 75000, x.span(0, 1, 1));
        DUE.is("least of all PEOPLE", 100000, x.span(0, 1000, 0));
        DUE.is("most of all PEOPLE", 100000, x.span(0, 1000, 1));
        // 96 of 99: 96969; without 96 2 of 3 (66666), without 1 or 2 97979, 98969.
        BookOfWills y = with("", "00m1;00m2;00m96");
        DUE.is("least is without the richest", 66666, y.span(0, 1, 0));
        DUE.is("most", 98969, y.span(0, 1, 1));
        BookOfWills z = with("", "00m1;00m98;00m1;00m0");
        // 98 of 100; without 98 a half, without 1 98989.
        DUE.is("WILLS not in THE BOOK do not count", 50000, z.span(0, 1, 0));
        DUE.is("WILLS not in THE BOOK do not count", 98989, z.span(0, 1, 1));
    }

    private static void smoothThoseThatThereAre() {
        DUE.says("SMOOTH by k (0 .. 3): YEARS y less k to y and k (those that there are)");
        BookOfWills x = new BookOfWills();
        // Of a thousandth each YEAR has one hundred hundredths of 2^y, of a TOTAL of 100 (2^y and 1).
        for (int year = 0; year < 8; year++) {
            x.will(year, 0, 0, 1 << year);
            x.will(year, 0, 0, 1);
        }
        for (int year = 0; year < 8; year++) {
            for (int k = 0; k <= 3; k++) {
                long tops = 0;
                long all = 0;
                for (int y = year - k; y <= year + k; y++) {
                    tops += y >= 0 && y < 8 ? 1 << y : 0;
                    all += y >= 0 && y < 8 ? (1 << y) + 1 : 0;
                }
                DUE.is("smooth(" + year + ", 1, " + k + ")", tops * 100000 / all, x.smooth(year, 1, k));
            }
        }
    }

    private static void jumpButTheLast() {
        DUE.says("JUMP: the YEAR (but the last) from which to the next one PARTS change by most (of like ones the first)");
        BookOfWills x = new BookOfWills();
        for (int year = 0; year < 8; year++) {
            x.will(year, 0, 0, 6);
            x.will(year, 0, 0, 6);
        }
        DUE.is("all alike", 0, x.jump(1, 0));
        DUE.is("all alike, by", 0, x.jump(1, 1));
        x.had(15, 0, 0);
        DUE.is("to the last", 6, x.jump(1, 0));
        DUE.is("to the last, by", 50000, x.jump(1, 1));
        x.had(1, 0, 0);
        DUE.is("up and down alike: the first", 0, x.jump(1, 0));
        DUE.is("up and down alike, by", 50000, x.jump(1, 1));
        x.had(1, 0, 1);
        // 6 of 7 is 85714: from YEAR 0 by 35714.
        DUE.is("less than to the last", 6, x.jump(1, 0));
    }

    private static void jumpPassedBy() {
        DUE.says("a YEAR without a SHARE is passed by, with its pairs");
        BookOfWills x = with("", "00m6;20m6;20m6;40m1");
        DUE.is("none one behind the other", -4, x.jump(1, 0));
        DUE.is("none one behind the other, by", -4, x.jump(1, 1));
        Due.wills(x, "60m6;60m6;60m6;70m6;70m6");
        // 33333 to 50000; the greater changes from 0 to 2, 2 to 4, 4 to 6 are none.
        DUE.is("one pair", 6, x.jump(1, 0));
        DUE.is("one pair, by", 16667, x.jump(1, 1));
    }
}
