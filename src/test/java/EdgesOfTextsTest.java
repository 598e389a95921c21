import java.math.BigInteger;

/** The edges that the document names of RULES and WILLS as texts and of DRAWN ones, a method for each sentence. */
public final class EdgesOfTextsTest {
    private static final Due DUE = new Due();
    private static final String GOOD_RULES = "0:f12l345h67LGTW;3:;5:l9999W;7:f0h999G";
    private static final String GOOD_WILLS = "00m0;75w9999l9998g9997t9996;31m12t34;42w5g6";

    public static void main(String[] args) {
        rulesHaveClauses();
        rulesOfAYear();
        rulesPerhaps();
        rulesNumbers();
        rulesOfAllBehind();
        rulesNotThereAreNone();
        willsHaveClauses();
        willsPerhaps();
        willsNumbers();
        willsSigns();
        faultAtTheFirstByte();
        faultAtTheEnd();
        faultAtTheEndBehindBlanks();
        blanksCountForNothing();
        blanksEndANumber();
        faultOfANumber();
        wrongSigns();
        wholeTape();
        drawnFromSeeds();
        drawnMoney();
        DUE.end();
    }

    private static int rules(String text) {
        return Due.rules(new BookOfWills(), text);
    }

    private static int wills(String text) {
        return Due.wills(new BookOfWills(), text);
    }

    private static void dueRule(BookOfWills x, int year, int... want) {
        for (int what = 0; what < 4; what++) {
            DUE.is("rule(" + year + ", " + what + ")", want[what], x.rule(year, what));
        }
    }

    private static void dueWill(BookOfWills x, int will, int... want) {
        for (int what = 0; what < 3; what++) {
            DUE.is("told(" + will + ", " + what + ")", want[what], x.told(will, what));
        }
        for (int what = 0; what < 4; what++) {
            DUE.is("had(" + will + ", " + what + ")", want[3 + what], x.had(will, what, want[3 + what]));
        }
    }

    private static void rulesHaveClauses() {
        DUE.says("RULES are a TEXT: 1 to 8 CLAUSES with ; between");
        DUE.is("none", -20, rules(""));
        StringBuilder text = new StringBuilder("7:");
        for (int n = 1; n <= 8; n++) {
            DUE.is(n + " CLAUSES", n, rules(text.toString()));
            DUE.is(n + " CLAUSES and a ; behind", -20 - text.length() - (n < 8 ? 1 : 0), rules(text + ";"));
            DUE.is("a ; ahead of " + n + " CLAUSES", -20, rules(";" + text));
            text.append(";7:");
        }
        DUE.is("9 CLAUSES: the ; behind the eighth can't stand there", -43, rules(text.toString()));
        DUE.is("9 CLAUSES, blanks ahead of the ;", -45, rules("7:;7:;7:;7:;7:;7:;7:;7:  ;7:"));
        DUE.is("two ;", -23, rules("7:;;7:"));
        DUE.is("no ;", -22, rules("7:7:"));
    }

    private static void rulesOfAYear() {
        DUE.says("a YEAR (a digit), :");
        for (int year = 0; year < 8; year++) {
            DUE.is("YEAR " + year, 1, rules(year + ":"));
        }
        DUE.is("YEAR 8", -20, rules("8:"));
        DUE.is("YEAR 9", -20, rules("9:"));
        DUE.is("the sign ahead of 0", -20, rules("/:"));
        DUE.is("the sign behind 9", -20, rules("::"));
        DUE.is("YEAR 8 in the second", -23, rules("0:;8:"));
        DUE.is("two digits", -21, rules("00:"));
        DUE.is("no digit", -20, rules(":"));
        DUE.is("no :", -21, rules("0f1"));
        DUE.is("; for :", -21, rules("0;"));
    }

    private static void rulesPerhaps() {
        DUE.says("perhaps f and a number, perhaps l and a number, perhaps h and a number, then marks (L G T W in this order, any or none)");
        for (int parts = 0; parts < 128; parts++) {
            String text = "4:" + ((parts & 1) != 0 ? "f11" : "") + ((parts & 2) != 0 ? "l22" : "") + ((parts & 4) != 0 ? "h33" : "")
                + ((parts & 8) != 0 ? "L" : "") + ((parts & 16) != 0 ? "G" : "") + ((parts & 32) != 0 ? "T" : "")
                + ((parts & 64) != 0 ? "W" : "");
            BookOfWills x = new BookOfWills();
            DUE.is(text, 1, Due.rules(x, text));
            dueRule(x, 4, (parts & 1) * 11, (parts >> 1 & 1) * 22, (parts >> 2 & 1) * 33, parts >> 3);
            dueRule(x, 3, 0, 0, 0, 9);
        }
        String[] twiceOrBack = {"f1f2", "l1f2", "l1l2", "h1f2", "h1l2", "h1h2"};
        for (String part : twiceOrBack) {
            DUE.is(part, -24, rules("0:" + part));
        }
        String marks = "LGTW";
        for (int i = 0; i < 4; i++) {
            for (int j = 0; j < 4; j++) {
                String two = "0:" + marks.charAt(i) + marks.charAt(j);
                DUE.is(two, i < j ? 1 : -23, rules(two));
            }
            DUE.is("a number behind a mark", -23, rules("0:" + marks.charAt(i) + "f1"));
        }
    }

    private static void rulesNumbers() {
        DUE.says("FLOOR (0 .. 9999), LINE (0 .. 9999), KEEN (0 .. 999)");
        BookOfWills x = new BookOfWills();
        DUE.is("the most", 1, Due.rules(x, "0:f9999l9999h999"));
        dueRule(x, 0, 9999, 9999, 999, 0);
        DUE.is("the least", 1, Due.rules(x, "0:f0l0h0"));
        dueRule(x, 0, 0, 0, 0, 0);
        DUE.is("FLOOR 10000", -23, rules("0:f10000"));
        DUE.is("LINE 10000", -23, rules("0:l10000"));
        DUE.is("KEEN 1000", -23, rules("0:h1000"));
        DUE.is("KEEN 9999", -23, rules("0:h9999"));
        DUE.is("below 0", -23, rules("0:f-1"));
        DUE.is("noughts ahead", 1, Due.rules(x, "0:f09999l00000000000000000007h000999"));
        dueRule(x, 0, 9999, 7, 999, 0);
        DUE.is("noughts ahead of too much", -23, rules("0:h0001000"));
    }

    private static void rulesOfAllBehind() {
        DUE.says("RULES of that YEAR and all behind it are so");
        for (int from = 0; from < 8; from++) {
            BookOfWills x = new BookOfWills();
            Due.rules(x, from + ":f1l2h3T");
            for (int year = 0; year < 8; year++) {
                dueRule(x, year, year < from ? new int[] {0, 0, 0, 9} : new int[] {1, 2, 3, 4});
            }
        }
        BookOfWills x = new BookOfWills();
        DUE.is("of one YEAR twice: the last", 2, Due.rules(x, "7:f1;7:f2"));
        dueRule(x, 7, 2, 0, 0, 0);
        DUE.is("back", 3, Due.rules(x, "6:f6;3:f3;5:f5"));
        int[] floors = {0, 0, 0, 3, 3, 5, 5, 5};
        for (int year = 0; year < 8; year++) {
            dueRule(x, year, floors[year], 0, 0, year < 3 ? 9 : 0);
        }
    }

    private static void rulesNotThereAreNone() {
        DUE.says("what is not there is 0");
        BookOfWills x = new BookOfWills();
        Due.rules(x, "0:f1l2h3LGTW");
        DUE.is("nothing there", 1, Due.rules(x, "2:"));
        dueRule(x, 1, 1, 2, 3, 15);
        dueRule(x, 2, 0, 0, 0, 0);
        dueRule(x, 7, 0, 0, 0, 0);
    }

    private static void willsHaveClauses() {
        DUE.says("WILLS are a TEXT: 1 to 8 CLAUSES with ; between");
        DUE.is("none", -20, wills(""));
        StringBuilder text = new StringBuilder("00m1");
        for (int n = 1; n <= 8; n++) {
            BookOfWills x = new BookOfWills();
            DUE.is(n + " CLAUSES", n, Due.wills(x, text.toString()));
            DUE.is(n + " WILLS come", n, x.count(0));
            DUE.is(n + " CLAUSES and a ; behind", -20 - text.length() - (n < 8 ? 1 : 0), wills(text + ";"));
            text.append(";00m1");
        }
        DUE.is("9 CLAUSES: the ; behind the eighth can't stand there", -59, wills(text.toString()));
        DUE.is("a ; ahead", -20, wills(";00m1"));
        DUE.is("two ;", -25, wills("00m1;;00m1"));
    }

    private static void willsPerhaps() {
        DUE.says("m or w, a number (money), perhaps l, g, t (in this order), each with a number");
        for (int parts = 0; parts < 16; parts++) {
            String text = "25" + ((parts & 8) != 0 ? "w" : "m") + "11" + ((parts & 1) != 0 ? "l22" : "")
                + ((parts & 2) != 0 ? "g33" : "") + ((parts & 4) != 0 ? "t44" : "");
            BookOfWills x = new BookOfWills();
            DUE.is(text, 1, Due.wills(x, text));
            dueWill(x, 0, 2, 5, parts >> 3, 11, (parts & 1) * 22, (parts >> 1 & 1) * 33, (parts >> 2 & 1) * 44);
        }
        String things = "lgt";
        for (int i = 0; i < 3; i++) {
            for (int j = 0; j < 3; j++) {
                String two = "00m1" + things.charAt(i) + "1" + things.charAt(j) + "1";
                DUE.is(two, i < j ? 1 : -26, wills(two));
            }
            DUE.is("no number", -25, wills("00m1" + things.charAt(i)));
            DUE.is("no number ahead of ;", -25, wills("00m1" + things.charAt(i) + ";00m1"));
        }
    }

    private static void willsNumbers() {
        DUE.says("who HAD money, land, gifts, trusts (0 .. 9999 each)");
        BookOfWills x = new BookOfWills();
        DUE.is("the most, the least", 2, Due.wills(x, "00m9999l9999g9999t9999;00m0l0g0t0"));
        dueWill(x, 0, 0, 0, 0, 9999, 9999, 9999, 9999);
        dueWill(x, 1, 0, 0, 0, 0, 0, 0, 0);
        DUE.is("money 10000", -23, wills("00m10000"));
        DUE.is("land 10000", -25, wills("00m1l10000"));
        DUE.is("gifts 10000", -25, wills("00m1g10000"));
        DUE.is("trusts 10000", -25, wills("00m1t10000"));
        DUE.is("noughts ahead", 1, Due.wills(x, "00m09999l00001"));
        dueWill(x, 2, 0, 0, 0, 9999, 1, 0, 0);
    }

    private static void willsSigns() {
        DUE.says("a YEAR, an AGE (digits), m or w");
        for (int year = 0; year < 10; year++) {
            for (int age = 0; age < 10; age++) {
                DUE.is("YEAR " + year + ", AGE " + age, year > 7 ? -20 : age > 5 ? -21 : 1, wills("" + year + age + "m1"));
            }
        }
        DUE.is("a man's", 1, wills("00m1"));
        DUE.is("a woman's", 1, wills("00w1"));
        for (String sign : new String[] {"M", "W", "x", "0", ":", ";", "l", "v"}) {
            DUE.is("00" + sign + "1", -22, wills("00" + sign + "1"));
        }
        DUE.is("both", -23, wills("00mw1"));
        DUE.is("no money", -23, wills("00ml1"));
    }

    private static void faultAtTheFirstByte() {
        DUE.says("FAULTS: -20 less the place of the first byte (behind blanks) that can't stand there");
        for (int place = 0; place < GOOD_RULES.length(); place++) {
            String text = GOOD_RULES.substring(0, place) + "~" + GOOD_RULES.substring(place + 1);
            DUE.is(text, -20 - place, rules(text));
            text = GOOD_RULES.substring(0, place) + "  ~" + GOOD_RULES.substring(place + 1);
            DUE.is(text, -22 - place, rules(text));
            text = GOOD_RULES.substring(0, place) + "~~~";
            DUE.is(text, -20 - place, rules(text));
        }
        for (int place = 0; place < GOOD_WILLS.length(); place++) {
            String text = GOOD_WILLS.substring(0, place) + "~" + GOOD_WILLS.substring(place + 1);
            DUE.is(text, -20 - place, wills(text));
            text = GOOD_WILLS.substring(0, place) + "  ~" + GOOD_WILLS.substring(place + 1);
            DUE.is(text, -22 - place, wills(text));
        }
        DUE.is("behind all", -20 - GOOD_RULES.length(), rules(GOOD_RULES + "~"));
        DUE.is("behind all and blanks", -22 - GOOD_WILLS.length(), wills(GOOD_WILLS + "  ~"));
    }

    private static void faultAtTheEnd() {
        DUE.says("the end: how many bytes there are");
        // Where RULES may end: not ahead of a ':', nor behind a ';' or a sign that wants a number.
        for (int n = 0; n <= GOOD_RULES.length(); n++) {
            String text = GOOD_RULES.substring(0, n);
            char last = n == 0 ? ';' : text.charAt(n - 1);
            boolean beforeColon = n < GOOD_RULES.length() && GOOD_RULES.charAt(n) == ':';
            boolean mayEnd = !beforeColon && ";flh".indexOf(last) < 0;
            DUE.is("'" + text + "'", mayEnd ? text.split(";").length : -20 - n, rules(text));
        }
        for (int n = 0; n <= GOOD_WILLS.length(); n++) {
            String text = GOOD_WILLS.substring(0, n);
            String clause = text.substring(text.lastIndexOf(';') + 1);
            boolean mayEnd = clause.length() > 3 && "lgt".indexOf(clause.charAt(clause.length() - 1)) < 0;
            DUE.is("'" + text + "'", mayEnd ? text.split(";").length : -20 - n, wills(text));
        }
    }

    private static void faultAtTheEndBehindBlanks() {
        DUE.says("the end: how many bytes there are; bytes 32 count for nothing");
        String[] texts = {"", "0", "0:f", "0:;", "0:f1l", "0:h"};
        for (String text : texts) {
            DUE.is("'" + text + "   '", -23 - text.length(), rules(text + "   "));
        }
        String[] others = {"", "0", "00", "00m", "00m1;", "00m1l", "00m1g", "00m1t"};
        for (String text : others) {
            DUE.is("'" + text + "   '", -23 - text.length(), wills(text + "   "));
        }
        DUE.is("100 blanks", -120, rules(" ".repeat(100)));
        DUE.is("100 blanks", -120, wills(" ".repeat(100)));
    }

    private static void blanksCountForNothing() {
        DUE.says("bytes 32 count for nothing");
        for (int place = 0; place <= GOOD_RULES.length(); place++) {
            if (!isWithinNumber(GOOD_RULES, place)) {
                BookOfWills x = new BookOfWills();
                String text = GOOD_RULES.substring(0, place) + "  " + GOOD_RULES.substring(place);
                DUE.is("'" + text + "'", 4, Due.rules(x, text));
                dueRule(x, 2, 12, 345, 67, 15);
                dueRule(x, 4, 0, 0, 0, 0);
                dueRule(x, 6, 0, 9999, 0, 8);
                dueRule(x, 7, 0, 0, 999, 2);
            }
        }
        for (int place = 0; place <= GOOD_WILLS.length(); place++) {
            // YEAR and AGE are digits, not a number: a blank may stand between them.
            boolean ahead = place == 0 || GOOD_WILLS.lastIndexOf(';', place - 1) >= place - 2;
            if (ahead || !isWithinNumber(GOOD_WILLS, place)) {
                BookOfWills x = new BookOfWills();
                String text = GOOD_WILLS.substring(0, place) + "  " + GOOD_WILLS.substring(place);
                DUE.is("'" + text + "'", 4, Due.wills(x, text));
                dueWill(x, 0, 0, 0, 0, 0, 0, 0, 0);
                dueWill(x, 1, 7, 5, 1, 9999, 9998, 9997, 9996);
                dueWill(x, 2, 3, 1, 0, 12, 0, 0, 34);
                dueWill(x, 3, 4, 2, 1, 5, 0, 6, 0);
            }
        }
    }

    private static boolean isWithinNumber(String text, int place) {
        return place > 0 && place < text.length() && Character.isDigit(text.charAt(place - 1)) && Character.isDigit(text.charAt(place));
    }

    private static void blanksEndANumber() {
        DUE.says("bytes 32 end a number");
        DUE.is("FLOOR", -25, rules("0:f1 2"));
        DUE.is("FLOOR, two blanks", -26, rules("0:f1  2"));
        DUE.is("LINE", -25, rules("0:l1 2"));
        DUE.is("KEEN", -25, rules("0:h1 2"));
        DUE.is("what would be too much", -28, rules("0:f9999 9"));
        DUE.is("money", -25, wills("00m1 2"));
        DUE.is("land", -27, wills("00m1l1 2"));
        DUE.is("trusts", -27, wills("00m1t1 2"));
        DUE.is("ahead of the next part", 1, rules("0:f1 l2"));
    }

    private static void faultOfANumber() {
        DUE.says("of a number that may not be its first byte");
        DUE.is("10000", -23, rules("0:f10000"));
        DUE.is("behind blanks", -26, rules("0:f   10000"));
        DUE.is("in the last CLAUSE", -28, rules("0:;1:f1l10000"));
        DUE.is("with a wrong byte behind", -23, rules("0:f10000~"));
        DUE.is("noughts ahead", -23, rules("0:f000010000"));
        // These would be 1, 0, 9999 if they wrapped round 32 or 64 bits.
        DUE.is("2^32 and 1", -23, rules("0:f4294967297"));
        DUE.is("2^32", -23, wills("00m4294967296"));
        DUE.is("2^64 and 1", -23, rules("0:f18446744073709551617"));
        DUE.is("2^64 and 9999", -25, wills("00m1l18446744073709561615"));
        DUE.is("90 nines", -23, rules("0:h" + "9".repeat(90)));
        DUE.is("97 nines", -23, wills("00m" + "9".repeat(97)));
        DUE.is("96 noughts and a nine", 1, wills("00m" + "0".repeat(96) + "9"));
    }

    private static void wrongSigns() {
        DUE.says("the first byte that can't stand there");
        for (char sign = 33; sign <= 126; sign++) {
            boolean isYear = sign >= '0' && sign <= '7';
            DUE.is(sign + ":", isYear ? 1 : -20, rules(sign + ":"));
            boolean isMark = "LGTW".indexOf(sign) >= 0;
            int behind = isMark ? 1 : "flh;".indexOf(sign) >= 0 ? -23 : -22;
            DUE.is("0:" + sign, behind, rules("0:" + sign));
            boolean isDigit = sign >= '0' && sign <= '9';
            DUE.is("0:f" + sign, isDigit ? 1 : -23, rules("0:f" + sign));
            DUE.is("00m" + sign, isDigit ? 1 : -23, wills("00m" + sign));
            int more = isDigit ? 1 : "lgt;".indexOf(sign) >= 0 ? -25 : -24;
            DUE.is("00m1" + sign, more, wills("00m1" + sign));
        }
    }

    private static void wholeTape() {
        DUE.says("THE TAPE: 100");
        String text = "0:f1;1:f2;2:f3;3:f4;4:f5;5:f6;6:f7;7:f8" + " ".repeat(60) + "W";
        BookOfWills x = new BookOfWills();
        DUE.is("bytes", 100, Due.typed(x, text));
        DUE.is("CLAUSES", 8, x.rules());
        for (int year = 0; year < 8; year++) {
            dueRule(x, year, year + 1, 0, 0, year == 7 ? 8 : 0);
        }
        DUE.is("bytes", 100, Due.typed(x, text.substring(0, 99) + "~"));
        DUE.is("a FAULT at the last byte", -119, x.rules());
        DUE.is("bytes", 100, Due.typed(x, text.substring(0, 99) + ";"));
        DUE.is("a ninth ; at the last byte", -119, x.rules());
        DUE.is("bytes", 100, Due.typed(x, "0:" + " ".repeat(97) + "f"));
        DUE.is("a FAULT at the end", -120, x.rules());
    }

    private static void drawnFromSeeds() {
        DUE.says("x becomes x times 6364136223846793005 and 1442695040888963407 (as the machine does), and r is x moved 33 bits to the right (none comes in)");
        BigInteger round = BigInteger.ONE.shiftLeft(64);
        long[] seeds = {0, 1, -1, 2, Long.MAX_VALUE, Long.MIN_VALUE, Long.MIN_VALUE + 1, 1L << 32, 1L << 33, -1L << 33, 4611686018427387904L};
        for (long seed : seeds) {
            BookOfWills x = new BookOfWills();
            DUE.is("draw(" + seed + ", 4, 24)", 24, x.draw(seed, 4, 24));
            BigInteger s = BigInteger.valueOf(seed).mod(round);
            for (int will = 0; will < 24; will++) {
                s = s.multiply(new BigInteger("6364136223846793005")).add(new BigInteger("1442695040888963407")).mod(round);
                long r = s.shiftRight(33).longValueExact();
                long root = r / 12 % 10000;
                dueWill(x, will, 4, (int) (r % 6), (int) (r / 6 % 2), (int) (root * root / 10000), 0, 0, 0);
            }
        }
    }

    private static void drawnMoney() {
        DUE.says("money is, of what is left of r by 12 by 10000, its square by 10000");
        int least = 10000;
        int most = -1;
        for (long seed = 0; seed < 4000; seed++) {
            BookOfWills x = new BookOfWills();
            x.draw(seed * 7919, 0, 24);
            for (int will = 0; will < 24; will++) {
                int money = x.had(will, 0, 0);
                least = Math.min(least, money);
                most = Math.max(most, money);
            }
        }
        // 99 times 99 is less than 10000; 9999 times 9999 is 99980001.
        DUE.is("the least", 0, least);
        DUE.is("the most", 9998, most);
    }
}
