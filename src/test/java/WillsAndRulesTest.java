/** Promises 1 to 14. */
public final class WillsAndRulesTest {
    private static final Due DUE = new Due();

    public static void main(String[] args) {
        promise1NewObject();
        promise2Lives();
        promise3Set();
        promise4Will();
        promise5Had();
        promise6ToldPlain();
        promise6ToldByRules();
        promise6ToldRich();
        promise7Burn();
        promise8Type();
        promise9Rules();
        promise9RulesFaults();
        promise10Rule();
        promise11Wills();
        promise11WillsFaults();
        promise12Draw();
        promise13People();
        promise14Count();
        DUE.end();
    }

    private static void promise1NewObject() {
        BookOfWills x = new BookOfWills();
        for (int what = 0; what <= 5; what++) {
            DUE.is("new: count(" + what + ")", 0, x.count(what));
        }
        for (int year = 0; year < 8; year++) {
            DUE.is("new: FLOOR", 0, x.rule(year, 0));
            DUE.is("new: LINE", 0, x.rule(year, 1));
            DUE.is("new: KEEN", 0, x.rule(year, 2));
            DUE.is("new: marks", 9, x.rule(year, 3));
            DUE.is("new: TOTAL", 0, x.total(year, 0));
            DUE.is("new: UNSEEN", 0, x.total(year, 1));
            DUE.is("new: PEOPLE", 1000, x.people(year, 0, 1));
            DUE.is("new: PRICES", 100, x.people(year, 1, 1));
        }
        for (int age = 0; age < 6; age++) {
            DUE.is("new: LIVES", 1, x.lives(age, 2));
        }
        for (int sheet = 0; sheet < 4; sheet++) {
            DUE.is("new: drop", -11, x.drop(sheet));
        }
        DUE.is("new: RICHES", 99999, x.set(0, 0));
        DUE.is("new: MORE", 0, x.set(1, 0));
        DUE.is("new: told", -1, x.told(0, 0));
        DUE.is("new: fights", 0, x.fights());
        DUE.is("new: restore", -4, x.restore());
        DUE.is("new: THE TAPE is empty", 1, x.type('0', 1));
        DUE.is("objects do not share WILLS", 0, new BookOfWills().will(0, 0, 0, 1));
        DUE.is("objects do not share WILLS", 0, x.count(0));
    }

    private static void promise2Lives() {
        BookOfWills x = new BookOfWills();
        x.will(0, 5, 0, 10);
        DUE.is("lives: first", 1, x.lives(5, 400));
        DUE.is("lives: what they were", 400, x.lives(5, 399));
        DUE.is("lives: other ages stay", 1, x.lives(4, 1));
        DUE.is("lives: it is used", 39900, x.told(0, 6));
        DUE.is("lives: v 0", -1, x.lives(5, 0));
        DUE.is("lives: v 401", -1, x.lives(5, 401));
        DUE.is("lives: age -1", -1, x.lives(-1, 5));
        DUE.is("lives: age 6", -1, x.lives(6, 5));
        DUE.is("lives: age least int", -1, x.lives(Integer.MIN_VALUE, 5));
        DUE.is("lives: BAD changes nothing", 399, x.lives(5, 1));
    }

    private static void promise3Set() {
        BookOfWills x = new BookOfWills();
        DUE.is("set: RICHES", 99999, x.set(0, 0));
        DUE.is("set: RICHES were 0", 0, x.set(0, 99999));
        DUE.is("set: MORE", 0, x.set(1, 100));
        DUE.is("set: MORE were 100", 100, x.set(1, 0));
        DUE.is("set: RICHES -1", -1, x.set(0, -1));
        DUE.is("set: RICHES 100000", -1, x.set(0, 100000));
        DUE.is("set: MORE -1", -1, x.set(1, -1));
        DUE.is("set: MORE 101", -1, x.set(1, 101));
        DUE.is("set: what 2", -1, x.set(2, 1));
        DUE.is("set: what -1", -1, x.set(-1, 1));
        DUE.is("set: BAD changes no RICHES", 99999, x.set(0, 5));
        DUE.is("set: BAD changes no MORE", 0, x.set(1, 5));
    }

    private static void promise4Will() {
        BookOfWills x = new BookOfWills();
        DUE.is("will: first", 0, x.will(7, 5, 1, 9999));
        DUE.is("will: second", 1, x.will(0, 0, 0, 0));
        int[][] bad = {{8, 0, 0, 0}, {-1, 0, 0, 0}, {0, 6, 0, 0}, {0, -1, 0, 0}, {0, 0, 2, 0}, {0, 0, -1, 0},
            {0, 0, 0, 10000}, {0, 0, 0, -1}};
        for (int[] b : bad) {
            DUE.is("will: BAD", -1, x.will(b[0], b[1], b[2], b[3]));
        }
        DUE.is("will: YEAR", 7, x.told(0, 0));
        DUE.is("will: AGE", 5, x.told(0, 1));
        DUE.is("will: sex", 1, x.told(0, 2));
        DUE.is("will: money", 9999, x.had(0, 0, 9999));
        for (int what = 1; what < 4; what++) {
            DUE.is("will: of money alone", 0, x.had(0, what, 7));
        }
        for (int i = 2; i < 24; i++) {
            DUE.is("will: number", i, x.will(0, 0, 0, i));
        }
        DUE.is("will: FULL", -3, x.will(0, 0, 0, 1));
        DUE.is("will: BAD ahead of FULL", -1, x.will(8, 0, 0, 1));
        DUE.is("will: 24", 24, x.count(0));
        for (int what = 1; what < 4; what++) {
            x.had(23, what, 6);
        }
        DUE.is("will: room again", 23, x.burn(23));
        DUE.is("will: in the burnt one's place", 23, x.will(0, 0, 0, 3));
        for (int what = 1; what < 4; what++) {
            DUE.is("will: nothing of the burnt one", 0, x.had(23, what, 0));
        }
    }

    private static void promise5Had() {
        BookOfWills x = new BookOfWills();
        x.will(0, 0, 0, 5);
        x.will(0, 0, 0, 6);
        DUE.is("had: money", 5, x.had(0, 0, 9999));
        DUE.is("had: land", 0, x.had(0, 1, 11));
        DUE.is("had: gifts", 0, x.had(0, 2, 22));
        DUE.is("had: trusts", 0, x.had(0, 3, 33));
        DUE.is("had: money", 9999, x.had(0, 0, 0));
        DUE.is("had: land", 11, x.had(0, 1, 0));
        DUE.is("had: gifts", 22, x.had(0, 2, 0));
        DUE.is("had: trusts", 33, x.had(0, 3, 0));
        DUE.is("had: the next one's", 6, x.had(1, 0, 6));
        DUE.is("had: will -1", -1, x.had(-1, 0, 1));
        DUE.is("had: will 2", -1, x.had(2, 0, 1));
        DUE.is("had: what 4", -1, x.had(0, 4, 1));
        DUE.is("had: what -1", -1, x.had(0, -1, 1));
        DUE.is("had: v -1", -1, x.had(0, 0, -1));
        DUE.is("had: v 10000", -1, x.had(0, 0, 10000));
        DUE.is("had: BAD changes nothing", 0, x.had(0, 0, 0));
        DUE.is("had: BAD changes nothing", 6, x.had(1, 0, 6));
    }

    private static BookOfWills oneWill(String rules, int sex, int money) {
        BookOfWills x = new BookOfWills();
        DUE.is("rules " + rules, 1, Due.rules(x, rules));
        x.will(3, 2, sex, money);
        x.had(0, 1, 10);
        x.had(0, 2, 200);
        x.had(0, 3, 3000);
        return x;
    }

    private static void promise6ToldPlain() {
        BookOfWills x = oneWill("0:LW", 1, 4);
        DUE.is("told: YEAR", 3, x.told(0, 0));
        DUE.is("told: AGE", 2, x.told(0, 1));
        DUE.is("told: sex", 1, x.told(0, 2));
        DUE.is("told: will 1", -1, x.told(1, 0));
        DUE.is("told: will -1", -1, x.told(-1, 0));
        DUE.is("told: what 8", -1, x.told(0, 8));
        DUE.is("told: what -1", -1, x.told(0, -1));
    }

    private static void promise6ToldByRules() {
        String[] rules = {"0:", "0:L", "0:G", "0:T", "0:LG", "0:GT", "0:LGT", "0:W", "0:LGTW"};
        int[] man = {4, 14, 204, 3004, 214, 3204, 3214, 4, 3214};
        int[] woman = {0, 0, 0, 0, 0, 0, 0, 4, 3214};
        for (int i = 0; i < rules.length; i++) {
            DUE.is("told: SEEN of a man's by " + rules[i], man[i], oneWill(rules[i], 0, 4).told(0, 3));
            DUE.is("told: SEEN of a woman's by " + rules[i], woman[i], oneWill(rules[i], 1, 4).told(0, 3));
        }
        int[] money = {499, 500, 501, 520, 521};
        int[] sworn = {499, 500, 500, 500, 521};
        int[] kind = {0, 0, 2, 2, 0};
        for (int i = 0; i < money.length; i++) {
            BookOfWills x = oneWill("0:l500h20W", 0, money[i]);
            DUE.is("told: SEEN " + money[i], money[i], x.told(0, 3));
            DUE.is("told: SWORN of " + money[i], sworn[i], x.told(0, 4));
            DUE.is("told: KIND of " + money[i], kind[i], x.told(0, 7));
            DUE.is("told: a LINE of 0 takes none", money[i], oneWill("0:h999", 0, money[i]).told(0, 4));
        }
        DUE.is("told: a LINE of 1", 1, oneWill("0:l1h2", 0, 3).told(0, 4));
        for (int seen = 0; seen < 102; seen++) {
            BookOfWills x = oneWill("0:f100", 0, seen);
            DUE.is("told: in THE BOOK by a FLOOR of 100 with " + seen, seen >= 100 ? 1 : 0, x.told(0, 5));
            DUE.is("told: KIND by a FLOOR of 100 with " + seen, seen >= 100 ? 0 : 1, x.told(0, 7));
        }
        DUE.is("told: 0 is not in THE BOOK", 0, oneWill("0:", 0, 0).told(0, 5));
        DUE.is("told: 1 is in THE BOOK", 1, oneWill("0:", 0, 1).told(0, 5));
        // What is SWORN, not what is SEEN, must reach the FLOOR.
        DUE.is("told: SWORN below the FLOOR", 0, oneWill("0:f510l500h20", 0, 515).told(0, 5));
        DUE.is("told: SMALL ahead of ROUNDED", 1, oneWill("0:f510l500h20", 0, 515).told(0, 7));
    }

    private static void promise6ToldRich() {
        BookOfWills x = oneWill("0:l500h20", 0, 520);
        x.lives(2, 7);
        DUE.is("told: WEIGHT", 700, x.told(0, 6));
        x.set(1, 40);
        DUE.is("told: not RICH", 700, x.told(0, 6));
        x.set(0, 501);
        DUE.is("told: not RICH by SWORN", 700, x.told(0, 6));
        x.set(0, 500);
        DUE.is("told: RICH by SWORN", 980, x.told(0, 6));
        DUE.is("told: ROUNDED ahead of RICH", 2, x.told(0, 7));
        x.had(0, 0, 500);
        DUE.is("told: RICH", 3, x.told(0, 7));
        x.had(0, 0, 499);
        DUE.is("told: not RICH", 0, x.told(0, 7));
        BookOfWills poor = oneWill("0:f9999", 0, 600);
        poor.set(0, 600);
        poor.set(1, 50);
        DUE.is("told: WEIGHT is by what is SWORN, in THE BOOK or not", 150, poor.told(0, 6));
        DUE.is("told: SMALL ahead of RICH", 1, poor.told(0, 7));
    }

    private static void promise7Burn() {
        BookOfWills x = new BookOfWills();
        for (int i = 0; i < 24; i++) {
            x.will(i % 8, i % 6, i % 2, i);
            x.had(i, 3, 100 + i);
        }
        DUE.is("burn: 24", -1, x.burn(24));
        DUE.is("burn: -1", -1, x.burn(-1));
        DUE.is("burn: in the middle", 23, x.burn(5));
        DUE.is("burn: behind it one down", 6, x.had(5, 0, 6));
        DUE.is("burn: with all that it had", 106, x.had(5, 3, 106));
        DUE.is("burn: with its YEAR", 6, x.told(5, 0));
        DUE.is("burn: with its AGE", 0, x.told(5, 1));
        DUE.is("burn: with its sex", 0, x.told(5, 2));
        DUE.is("burn: ahead of it none moves", 4, x.had(4, 0, 4));
        DUE.is("burn: the last", 22, x.burn(22));
        DUE.is("burn: it is gone", -1, x.burn(22));
        for (int left = 21; left >= 0; left--) {
            DUE.is("burn: the first", left, x.burn(0));
        }
        DUE.is("burn: none is left", -1, x.burn(0));
    }

    private static void promise8Type() {
        BookOfWills x = new BookOfWills();
        DUE.is("type: n 0", -1, x.type('0', 0));
        DUE.is("type: n 9", -1, x.type('0', 9));
        DUE.is("type: n 9 of good bytes", -1, x.type(0x2020202020202020L, 9));
        DUE.is("type: n -1", -1, x.type('0', -1));
        DUE.is("type: byte 31", -1, x.type(31, 1));
        DUE.is("type: byte 127", -1, x.type(127, 1));
        DUE.is("type: byte 0 of two", -1, x.type('0', 2));
        DUE.is("type: byte 255", -1, x.type(-1L, 8));
        DUE.is("type: higher bytes are not looked at", 1, x.type(0x0131L, 1));
        DUE.is("type: byte 32, 126", 3, x.type(32 << 8 | 126, 2));
        DUE.is("type: fault at the third byte, so blanks count", -22, x.rules());
        DUE.is("type: THE TAPE is empty then", 2, x.type('0' << 8 | ':', 2));
        DUE.is("type: the highest byte first", 1, x.rules());
        for (int i = 1; i <= 12; i++) {
            DUE.is("type: 8 more", 8 * i, x.type(0x2020202020202020L, 8));
        }
        DUE.is("type: not 101", -3, x.type(0x2020202020L, 5));
        DUE.is("type: BAD ahead of FULL", -1, x.type(0x2020202000L, 5));
        DUE.is("type: 100", 100, x.type(0x20202020L, 4));
        DUE.is("type: FULL", -3, x.type(' ', 1));
        DUE.is("type: all blanks", -120, x.rules());
        DUE.is("type: FULL typed nothing", 2, x.type('0' << 8 | ':', 2));
    }

    private static void dueRule(BookOfWills x, int year, int floor, int line, int keen, int marks) {
        String of = "rule of " + year + ": ";
        DUE.is(of + "FLOOR", floor, x.rule(year, 0));
        DUE.is(of + "LINE", line, x.rule(year, 1));
        DUE.is(of + "KEEN", keen, x.rule(year, 2));
        DUE.is(of + "marks", marks, x.rule(year, 3));
    }

    private static void promise9Rules() {
        BookOfWills x = new BookOfWills();
        DUE.is("rules: two", 2, Due.rules(x, "2:f9999l9999h999LGTW;5:l7G"));
        dueRule(x, 0, 0, 0, 0, 9);
        dueRule(x, 1, 0, 0, 0, 9);
        dueRule(x, 2, 9999, 9999, 999, 15);
        dueRule(x, 4, 9999, 9999, 999, 15);
        dueRule(x, 5, 0, 7, 0, 2);
        dueRule(x, 7, 0, 7, 0, 2);
        DUE.is("rules: a later CLAUSE of an earlier YEAR", 2, Due.rules(x, "6:f1;4:h3T"));
        dueRule(x, 3, 9999, 9999, 999, 15);
        dueRule(x, 4, 0, 0, 3, 4);
        dueRule(x, 6, 0, 0, 3, 4);
        DUE.is("rules: eight", 8, Due.rules(x, "0:;1:;2:;3:;4:;5:;6:;7:W"));
        dueRule(x, 6, 0, 0, 0, 0);
        dueRule(x, 7, 0, 0, 0, 8);
        DUE.is("rules: blanks", 2, Due.rules(x, "  0 : f  12 l 3  h 4 L  G T W  ;  7 :  "));
        dueRule(x, 0, 12, 3, 4, 15);
        dueRule(x, 7, 0, 0, 0, 0);
        DUE.is("rules: noughts ahead", 1, Due.rules(x, "0:f000000000000000000009h0999"));
        dueRule(x, 0, 9, 0, 999, 0);
        String[] orders = {"0:f1h2", "0:f1L", "0:l1W", "0:h1T", "0:LT", "0:GW"};
        for (String text : orders) {
            DUE.is("rules: " + text, 1, Due.rules(x, text));
        }
    }

    private static void promise9RulesFaults() {
        String[] texts = {"", "   ", "0", "0 ", "8:", "a:", ":", "0;", "0:x", "0:f", "0:f ", "0:fL", "0:f10000", "0: f 10000", "0:l10000",
            "0:h1000", "0:f1f2", "0:l1f2", "0:h1l2", "0:h1f2", "0:Lf1", "0:GL", "0:WL", "0:LL", "0:WT", "0:f1 2", "0:;", "0:; ", "0:;;",
            "0:;8:", "/:", "0:f/", "0:f1:", "0:f99999999999999999999", "0:f4294967297", "0:,1:", "00:", "0:F1", "0:LGTWx", "0:f-1", "0:f1l", "0:;1:f1;2:l10000;x",
            "0:;1:;2:;3:;4:;5:;6:;7:;", "0:;1:;2:;3:;4:;5:;6:;7: ;0:"};
        int[] places = {0, 3, 1, 2, 0, 0, 0, 1, 2, 3, 4, 3, 3, 5, 3,
            3, 4, 4, 4, 4, 3, 3, 3, 3, 3, 5, 3, 4, 3,
            3, 0, 3, 4, 3, 3, 2, 1, 2, 6, 3, 5, 11,
            23, 24};
        for (int i = 0; i < texts.length; i++) {
            BookOfWills x = new BookOfWills();
            Due.rules(x, "0:f1l2h3L");
            DUE.is("rules: FAULT of '" + texts[i] + "'", -20 - places[i], Due.rules(x, texts[i]));
            dueRule(x, 0, 1, 2, 3, 1);
            dueRule(x, 7, 1, 2, 3, 1);
            DUE.is("rules: THE TAPE is empty behind '" + texts[i] + "'", -20, x.rules());
            DUE.is("rules: good ones behind '" + texts[i] + "'", 1, Due.rules(x, "7:h9"));
            dueRule(x, 0, 1, 2, 3, 1);
            dueRule(x, 6, 1, 2, 3, 1);
            dueRule(x, 7, 0, 0, 9, 0);
        }
    }

    private static void promise10Rule() {
        BookOfWills x = new BookOfWills();
        DUE.is("rule: year -1", -1, x.rule(-1, 0));
        DUE.is("rule: year 8", -1, x.rule(8, 0));
        DUE.is("rule: what -1", -1, x.rule(0, -1));
        DUE.is("rule: what 4", -1, x.rule(0, 4));
        DUE.is("rule: marks at first", 9, x.rule(7, 3));
    }

    private static void dueWill(BookOfWills x, int will, int[] want) {
        String of = "will " + will + ": ";
        for (int what = 0; what < 3; what++) {
            DUE.is(of + "told " + what, want[what], x.told(will, what));
        }
        for (int what = 0; what < 4; what++) {
            DUE.is(of + "had " + what, want[3 + what], x.had(will, what, want[3 + what]));
        }
    }

    private static void promise11Wills() {
        BookOfWills x = new BookOfWills();
        DUE.is("wills: one", 1, Due.wills(x, "00m0"));
        DUE.is("wills: two", 2, Due.wills(x, "75w9999l9998g9997t9996;12m3t4"));
        dueWill(x, 0, new int[] {0, 0, 0, 0, 0, 0, 0});
        dueWill(x, 1, new int[] {7, 5, 1, 9999, 9998, 9997, 9996});
        dueWill(x, 2, new int[] {1, 2, 0, 3, 0, 0, 4});
        DUE.is("wills: blanks", 2, Due.wills(x, " 3 4 w 0012 g 5 ; 21m7 l8 "));
        dueWill(x, 3, new int[] {3, 4, 1, 12, 0, 5, 0});
        dueWill(x, 4, new int[] {2, 1, 0, 7, 8, 0, 0});
        DUE.is("wills: eight", 8, Due.wills(x, "00m1;00m2;00m3;00m4;00m5;00m6;00m7;00m8"));
        DUE.is("wills: eight more", 8, Due.wills(x, "00m1;00m2;00m3;00m4;00m5;00m6;00m7;00m8"));
        DUE.is("wills: 21", 21, x.count(0));
        DUE.is("wills: FULL", -3, Due.wills(x, "00m1;00m2;00m3;00m4"));
        DUE.is("wills: none came", 21, x.count(0));
        DUE.is("wills: THE TAPE is empty behind FULL", -20, x.wills());
        DUE.is("wills: FAULT ahead of FULL", -36, Due.wills(x, "00m1;00m2;00m3;0"));
        DUE.is("wills: the last three", 3, Due.wills(x, "00m1;00m2;00m3l7"));
        dueWill(x, 23, new int[] {0, 0, 0, 3, 7, 0, 0});
        DUE.is("wills: FULL", -3, Due.wills(x, "00m1"));
    }

    private static void promise11WillsFaults() {
        String[] texts = {"", "  ", "0", "8", "00", "06m1", "00x", "00m", "00mx", "00m10000", "00w 10000", "00m1;", "00m1 2", "00m1l", "00m1l10000",
            "00m1g1l1", "00m1t1g1", "00m1t1l1", "00m1l1l1", "00m1t1t1", "00M1", "0:0m1", "00m1,", "00m1;80m1", "/0m1", "0/m1", "00m/", "00m1:", "00m1 l 3 ;  0 6",
            "00m1;00m1;00m1;00m1;00m1;00m1;00m1;00m1;", "00m1;00m1l5;00m1;00m1;00m1;00m1;00m1;00m1 ;00m1"};
        int[] places = {0, 2, 1, 0, 2, 1, 2, 3, 3, 3, 4, 5, 5, 5, 5,
            6, 6, 6, 6, 6, 2, 1, 4, 5, 0, 1, 3, 4, 14,
            39, 42};
        for (int i = 0; i < texts.length; i++) {
            BookOfWills x = new BookOfWills();
            DUE.is("wills: FAULT of '" + texts[i] + "'", -20 - places[i], Due.wills(x, texts[i]));
            DUE.is("wills: none came by '" + texts[i] + "'", 0, x.count(0));
            DUE.is("wills: THE TAPE is empty behind '" + texts[i] + "'", -20, x.wills());
            DUE.is("wills: a good one comes behind '" + texts[i] + "'", 1, Due.wills(x, "11m5"));
            dueWill(x, 0, new int[] {1, 1, 0, 5, 0, 0, 0});
        }
    }

    private static void promise12Draw() {
        long[] seeds = {0, 1, -1, 7, Long.MAX_VALUE, Long.MIN_VALUE, 123456789012345L};
        for (long seed : seeds) {
            BookOfWills x = new BookOfWills();
            x.will(0, 0, 0, 0);
            DUE.is("draw: 23", 24, x.draw(seed, 6, 23));
            long s = seed;
            for (int will = 1; will < 24; will++) {
                s = s * 6364136223846793005L + 1442695040888963407L;
                long r = s >>> 33;
                int root = (int) (r / 12 % 10000);
                dueWill(x, will, new int[] {6, (int) (r % 6), (int) (r / 6 % 2), root * root / 10000, 0, 0, 0});
            }
            DUE.is("draw: FULL", -3, x.draw(seed, 6, 1));
            DUE.is("draw: BAD ahead of FULL", -1, x.draw(seed, 6, 25));
        }
        BookOfWills x = new BookOfWills();
        DUE.is("draw: n 0", -1, x.draw(1, 0, 0));
        DUE.is("draw: n 25", -1, x.draw(1, 0, 25));
        DUE.is("draw: year 8", -1, x.draw(1, 8, 1));
        DUE.is("draw: year -1", -1, x.draw(1, -1, 1));
        DUE.is("draw: 2", 2, x.draw(1, 0, 2));
        DUE.is("draw: not all have room", -3, x.draw(1, 0, 23));
        DUE.is("draw: none came", 2, x.count(0));
        DUE.is("draw: all have room", 24, x.draw(1, 0, 22));
    }

    private static void promise13People() {
        BookOfWills x = new BookOfWills();
        DUE.is("people: 1000", 1000, x.people(7, 0, 999999));
        DUE.is("people: what they were", 999999, x.people(7, 0, 1));
        DUE.is("people: PRICES", 100, x.people(7, 1, 999));
        DUE.is("people: PRICES were", 999, x.people(7, 1, 1));
        DUE.is("people: 0", -1, x.people(7, 0, 0));
        DUE.is("people: 1000000", -1, x.people(7, 0, 1000000));
        DUE.is("people: PRICES 0", -1, x.people(7, 1, 0));
        DUE.is("people: PRICES 1000", -1, x.people(7, 1, 1000));
        DUE.is("people: year 8", -1, x.people(8, 0, 5));
        DUE.is("people: year -1", -1, x.people(-1, 1, 5));
        DUE.is("people: what 2", -1, x.people(0, 2, 5));
        DUE.is("people: what -1", -1, x.people(0, -1, 5));
        DUE.is("people: BAD changes nothing", 1, x.people(7, 0, 5));
        DUE.is("people: BAD changes nothing", 1, x.people(7, 1, 5));
        DUE.is("people: other YEARS stay", 1000, x.people(6, 0, 5));
    }

    private static void promise14Count() {
        BookOfWills x = new BookOfWills();
        Due.rules(x, "0:f100l500h20;4:f9999");
        Due.wills(x, "00m99;00m100;00m501;00m520;00m600;00m0;00w500;40m9000");
        x.set(0, 500);
        // 99, 0, the woman's and 9000 are SMALL; 501 and 520 ROUNDED; 600 RICH.
        DUE.is("count: WILLS", 8, x.count(0));
        DUE.is("count: SMALL", 4, x.count(1));
        DUE.is("count: ROUNDED", 2, x.count(2));
        DUE.is("count: RICH", 1, x.count(3));
        DUE.is("count: YEARS that have a SHARE", 1, x.count(4));
        x.will(3, 0, 0, 100);
        DUE.is("count: YEARS that have a SHARE", 2, x.count(4));
        DUE.is("count: no COUNTS", 0, x.count(5));
        x.beside(3, 0, 0);
        x.beside(3, 1, 1);
        x.beside(7, 0, 0);
        DUE.is("count: COUNTS of two YEARS", 2, x.count(5));
        DUE.is("count: what -1", -1, x.count(-1));
        DUE.is("count: what 6", -1, x.count(6));
    }
}
