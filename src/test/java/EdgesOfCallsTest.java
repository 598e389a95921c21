/** The edges of promises 1 to 20 that no table of numbers or refusals tells (NumbersTest, RefusedTest), a method for each. */
public final class EdgesOfCallsTest {
    private static final Due DUE = new Due();

    public static void main(String[] args) {
        promise1();
        promise2();
        promise3();
        promise4MoneyAlone();
        promise4Full();
        promise5();
        promise6();
        promise7HowManyAreLeft();
        promise7OneDown();
        promise8HighestFirst();
        promise8BehindTheTape();
        promise8Full();
        promise9EmptyThen();
        promise9RulesStay();
        promise10();
        promise11ComeToo();
        promise11NotAllHaveRoom();
        promise12HowManyThen();
        promise12NotAllHaveRoom();
        promise13();
        promise14();
        promise15Total();
        promise15Unseen();
        promise16();
        promise17();
        promise18();
        promise19();
        promise20();
        calls512();
        DUE.end();
    }

    private static void promise1() {
        DUE.says("A new object: No WILLS");
        for (int what = 0; what < 6; what++) {
            DUE.is("count(" + what + ")", 0, new BookOfWills().count(what));
        }
        for (int will = -1; will <= 24; will++) {
            BookOfWills x = new BookOfWills();
            DUE.is("told(" + will + ")", -1, x.told(will, 0));
            DUE.is("had(" + will + ")", -1, x.had(will, 0, 0));
            DUE.is("burn(" + will + ")", -1, x.burn(will));
        }
        BookOfWills one = new BookOfWills();
        BookOfWills other = new BookOfWills();
        Worlds.some(one);
        DUE.is("another object is as new: 1", 1, Look.behind().equals(Look.behind(x -> {
            Worlds.some(new BookOfWills());
            return 0;
        })) ? 1 : 0);
        DUE.is("count(0) of another object", 0, other.count(0));
        DUE.is("its first WILL", 0, other.will(0, 0, 0, 0));
    }

    private static void promise2() {
        DUE.says("LIVES of an AGE: what they were");
        for (int age = 0; age < 6; age++) {
            BookOfWills x = new BookOfWills();
            DUE.is("at first", 1, x.lives(age, 1));
            DUE.is("1", 1, x.lives(age, 400));
            DUE.is("400", 400, x.lives(age, 1));
            DUE.is("0 is refused", -1, x.lives(age, 0));
            DUE.is("401 is refused", -1, x.lives(age, 401));
            DUE.is("1 still", 1, x.lives(age, 2));
        }
    }

    private static void promise3() {
        DUE.says("RICHES (0), MORE (1): what it was");
        BookOfWills x = new BookOfWills();
        DUE.is("RICHES at first", 99999, x.set(0, 0));
        DUE.is("MORE at first, whatever RICHES are", 0, x.set(1, 100));
        DUE.is("RICHES 0", 0, x.set(0, 99999));
        DUE.is("MORE 100", 100, x.set(1, 0));
        DUE.is("MORE of what RICHES may be", -1, x.set(1, 99999));
        DUE.is("RICHES of what MORE may not be", 99999, x.set(0, 101));
        DUE.is("RICHES 101", 101, x.set(0, 101));
        DUE.is("MORE still 0", 0, x.set(1, 0));
    }

    private static void promise4MoneyAlone() {
        DUE.says("A WILL of money alone: its number");
        BookOfWills x = new BookOfWills();
        for (int will = 0; will < 24; will++) {
            DUE.is("number", will, x.will(will % 8, will % 6, will % 2, will == 0 ? 0 : 9976 + will));
            for (int what = 0; what < 4; what++) {
                DUE.is("had", what > 0 || will == 0 ? 0 : 9976 + will, x.had(will, what, 5));
            }
        }
        x.burn(23);
        x.will(0, 0, 0, 7);
        for (int what = 1; what < 4; what++) {
            DUE.is("alone, though one that is burnt had more", 0, x.had(23, what, 0));
        }
    }

    private static void promise4Full() {
        DUE.says("will: FULL: 24");
        BookOfWills x = new BookOfWills();
        x.draw(1, 0, 23);
        DUE.is("the last", 23, x.will(0, 0, 0, 1));
        DUE.is("one more", -3, x.will(0, 0, 0, 1));
        DUE.is("24 still", 24, x.count(0));
        x.burn(0);
        DUE.is("behind a burnt one", 23, x.will(0, 0, 0, 1));
        DUE.is("one more", -3, x.will(0, 0, 0, 1));
    }

    private static void promise5() {
        DUE.says("Land (1), gifts (2), trusts (3), money (0) of a WILL: what it was");
        BookOfWills x = new BookOfWills();
        x.draw(1, 0, 24);
        for (int will = 0; will < 24; will++) {
            for (int what = 0; what < 4; what++) {
                x.had(will, what, 4 * will + what);
            }
        }
        for (int will = 0; will < 24; will++) {
            for (int what = 0; what < 4; what++) {
                DUE.is("had(" + will + ", " + what + ")", 4 * will + what, x.had(will, what, 9999));
            }
        }
        DUE.is("24", -1, x.had(24, 0, 0));
        x.burn(0);
        DUE.is("23, if it went one down", -1, x.had(23, 0, 0));
        DUE.is("22", 9999, x.had(22, 0, 0));
    }

    private static void promise6() {
        DUE.says("Of a WILL by RULES of its YEAR");
        BookOfWills x = new BookOfWills();
        Due.rules(x, "0:f50l100h9LGTW;7:f5000");
        Due.wills(x, "65w100l2g3t4;75w100l2g3t4;75m4999;75m5000;65m49;65m110");
        x.lives(5, 400);
        x.set(0, 5000);
        x.set(1, 1);
        int[][] want = {{6, 5, 1, 109, 100, 1, 40000, 2}, {7, 5, 1, 0, 0, 0, 40000, 1}, {7, 5, 0, 4999, 4999, 0, 40000, 1},
            {7, 5, 0, 5000, 5000, 1, 40400, 3}, {6, 5, 0, 49, 49, 0, 40000, 1}, {6, 5, 0, 110, 110, 1, 40000, 0}};
        for (int will = 0; will < want.length; will++) {
            for (int what = 0; what < 8; what++) {
                DUE.is("told(" + will + ", " + what + ")", want[will][what], x.told(will, what));
            }
        }
        DUE.is("told(6, 0)", -1, x.told(6, 0));
        DUE.is("told(0, 8)", -1, x.told(0, 8));
    }

    private static void promise7HowManyAreLeft() {
        DUE.says("A WILL goes: how many are left");
        BookOfWills x = new BookOfWills();
        x.will(0, 0, 0, 1);
        DUE.is("the only one", 0, x.burn(0));
        DUE.is("none is left", -1, x.burn(0));
        x.draw(1, 0, 24);
        for (int left = 23; left >= 0; left--) {
            DUE.is("the last one", left, x.burn(left));
            DUE.is("it is no more", -1, x.told(left, 0));
        }
    }

    private static void promise7OneDown() {
        DUE.says("those behind it go one down");
        for (int burnt = 0; burnt < 24; burnt++) {
            BookOfWills x = new BookOfWills();
            for (int will = 0; will < 24; will++) {
                x.will(will % 8, will % 6, will / 12, will);
                x.had(will, 3, 100 + will);
            }
            DUE.is("burn(" + burnt + ")", 23, x.burn(burnt));
            for (int will = 0; will < 23; will++) {
                int was = will < burnt ? will : will + 1;
                DUE.is("YEAR", was % 8, x.told(will, 0));
                DUE.is("AGE", was % 6, x.told(will, 1));
                DUE.is("sex", was / 12, x.told(will, 2));
                DUE.is("money", was, x.had(will, 0, was));
                DUE.is("trusts", 100 + was, x.had(will, 3, 100 + was));
            }
            DUE.is("the last is no more", -1, x.told(23, 0));
        }
    }

    private static void promise8HighestFirst() {
        DUE.says("The n lowest bytes (1 .. 8) of w, of these the highest first");
        // "7:h123LW" typed by its last n bytes; what is above them is of no byte that may be.
        long w = 0x373A683132334C57L;
        BookOfWills x = new BookOfWills();
        DUE.is("8 bytes", 8, x.type(w, 8));
        DUE.is("8 bytes", 1, x.rules());
        DUE.is("KEEN", 123, x.rule(7, 2));
        DUE.is("marks", 9, x.rule(7, 3));
        for (int n = 1; n < 8; n++) {
            BookOfWills y = new BookOfWills();
            DUE.is(n + " bytes", n, y.type(w | -1L << 8 * n, n));
            DUE.is(n + " bytes, with bytes 0 above", 2 * n, y.type(w & ~(-1L << 8 * n), n));
        }
        DUE.is("a byte 0 within", -1, x.type(0x3700, 2));
        DUE.is("w 0", -1, x.type(0, 1));
        DUE.is("w -1", -1, x.type(-1, 1));
    }

    private static void promise8BehindTheTape() {
        DUE.says("come behind THE TAPE: how many it has");
        BookOfWills x = new BookOfWills();
        String text = "0:f1234;7:h56W";
        for (int i = 0; i < text.length(); i++) {
            DUE.is("byte " + i, i + 1, x.type(text.charAt(i), 1));
        }
        DUE.is("rules", 2, x.rules());
        DUE.is("FLOOR", 1234, x.rule(6, 0));
        DUE.is("KEEN", 56, x.rule(7, 2));
        DUE.is("empty again", 1, x.type('0', 1));
    }

    private static void promise8Full() {
        DUE.says("type: FULL: 100");
        for (int n = 1; n <= 8; n++) {
            BookOfWills x = new BookOfWills();
            for (int i = 1; i <= 100 / n; i++) {
                DUE.is(n + " more", i * n, x.type(0x2020202020202020L, n));
            }
            int left = 100 % n;
            DUE.is(n + " more, with room for " + left, -3, x.type(0x2020202020202020L, n));
            DUE.is("up to 100", left == 0 ? -1 : 100, x.type(0x2020202020202020L, left));
            DUE.is("beyond", -3, x.type(' ', 1));
            DUE.is("all of it", -120, x.rules());
            DUE.is("room again", 1, x.type(' ', 1));
        }
    }

    private static void promise9EmptyThen() {
        DUE.says("THE TAPE, which is empty then, is RULES: how many CLAUSES");
        BookOfWills x = new BookOfWills();
        DUE.is("one", 1, Due.rules(x, "3:f7"));
        DUE.is("it is empty", -20, x.rules());
        DUE.is("a FAULT", -22, Due.rules(x, "3:x"));
        DUE.is("it is empty", -20, x.wills());
        DUE.is("FLOOR", 7, x.rule(3, 0));
    }

    private static void promise9RulesStay() {
        DUE.says("A FAULT (RULES stay)");
        BookOfWills x = new BookOfWills();
        Due.rules(x, "0:f1l2h3LG");
        String[] faults = {"", "0:f9;1:l8;2:h7;3:T;", "0:f9;1:l8;2:h7;3:TT", "0:f9l10000", "0:;1:;2:;3:;4:;5:;6:;7:;", "0"};
        for (String fault : faults) {
            DUE.is("'" + fault + "' is a FAULT: 1", 1, Due.rules(x, fault) <= -20 ? 1 : 0);
            for (int year = 0; year < 8; year++) {
                for (int what = 0; what < 4; what++) {
                    DUE.is("rule(" + year + ", " + what + ")", what + 1 - what / 3, x.rule(year, what));
                }
            }
        }
        DUE.says("A FAULT (RULES stay, behind good ones of a later YEAR, too)");
        Due.rules(x, "0:f9l8h7W;1:~");
        DUE.is("good RULES", 1, Due.rules(x, "7:h5"));
        for (int what = 0; what < 4; what++) {
            DUE.is("rule(6, " + what + ")", what + 1 - what / 3, x.rule(6, what));
            DUE.is("rule(7, " + what + ")", what == 2 ? 5 : 0, x.rule(7, what));
        }
    }

    private static void promise10() {
        DUE.says("RULES of a YEAR: FLOOR (0), LINE (1), KEEN (2), marks (3)");
        BookOfWills x = new BookOfWills();
        Due.rules(x, "0:;7:f9999l9998h999LGTW");
        int[] want = {9999, 9998, 999, 15};
        for (int what = 0; what < 4; what++) {
            DUE.is("rule(7, " + what + ")", want[what], x.rule(7, what));
            DUE.is("rule(0, " + what + ")", 0, x.rule(0, what));
        }
    }

    private static void promise11ComeToo() {
        DUE.says("THE TAPE, which is empty then, is WILLS that come, too: how many");
        BookOfWills x = new BookOfWills();
        x.will(1, 1, 1, 1);
        DUE.is("two", 2, Due.wills(x, "22m2;33w3l4"));
        DUE.is("it is empty", -20, x.wills());
        DUE.is("how many there are", 3, x.count(0));
        DUE.is("the first stays", 1, x.told(0, 0));
        DUE.is("behind it", 2, x.told(1, 0));
        DUE.is("behind that", 3, x.told(2, 0));
        DUE.is("land", 4, x.had(2, 1, 4));
        DUE.is("a FAULT behind a good CLAUSE", -25, Due.wills(x, "00m1;8"));
        DUE.is("none comes", 3, x.count(0));
        DUE.is("it is empty", -20, x.wills());
        DUE.is("land is of its own WILL alone", 2, Due.wills(x, "00m1l5;00m1"));
        DUE.is("land", 5, x.had(3, 1, 0));
        DUE.is("no land", 0, x.had(4, 1, 0));
    }

    private static void promise11NotAllHaveRoom() {
        DUE.says("wills: FULL: not all have room (none comes)");
        String eight = "00m1;00m2;00m3;00m4;00m5;00m6;00m7;00m8";
        for (int there = 16; there <= 24; there++) {
            for (int n = 1; n <= 8; n++) {
                BookOfWills x = new BookOfWills();
                x.draw(9, 1, there);
                boolean hasRoom = there + n <= 24;
                DUE.is(n + " to " + there, hasRoom ? n : -3, Due.wills(x, eight.substring(0, 5 * n - 1)));
                DUE.is("how many there are", hasRoom ? there + n : there, x.count(0));
                DUE.is("THE TAPE is empty then", 1, x.type('0', 1));
            }
        }
    }

    private static void promise12HowManyThen() {
        DUE.says("DRAWN: how many WILLS there are then");
        BookOfWills x = new BookOfWills();
        DUE.is("one", 1, x.draw(1, 0, 1));
        DUE.is("one more, by the same seed", 2, x.draw(1, 7, 1));
        DUE.is("like money", x.had(0, 0, 0), x.had(1, 0, 0));
        DUE.is("like AGE", x.told(0, 1), x.told(1, 1));
        DUE.is("its YEAR", 7, x.told(1, 0));
        DUE.is("24", 24, new BookOfWills().draw(1, 0, 24));
    }

    private static void promise12NotAllHaveRoom() {
        DUE.says("draw: BAD: n not 1 .. 24; FULL: not all have room");
        for (int there = 0; there <= 24; there++) {
            BookOfWills x = new BookOfWills();
            for (int i = 0; i < there; i++) {
                x.will(0, 0, 0, 1);
            }
            DUE.is("25 to " + there, -1, x.draw(1, 0, 25));
            DUE.is("0 to " + there, -1, x.draw(1, 0, 0));
            DUE.is("one too many to " + there, there == 0 ? -1 : -3, x.draw(1, 0, 25 - there));
            DUE.is("none came", there, x.count(0));
            DUE.is("just enough to " + there, there == 24 ? -1 : 24, x.draw(1, 0, 24 - there));
            DUE.is("one more", -3, x.draw(1, 0, 1));
        }
    }

    private static void promise13() {
        DUE.says("PEOPLE (0), PRICES (1) of a YEAR: what they were");
        BookOfWills x = new BookOfWills();
        for (int year = 0; year < 8; year++) {
            DUE.is("PEOPLE at first", 1000, x.people(year, 0, 1));
            DUE.is("PRICES at first", 100, x.people(year, 1, 1));
            DUE.is("PEOPLE 1", 1, x.people(year, 0, 999999));
            DUE.is("PRICES 1", 1, x.people(year, 1, 999));
            DUE.is("PRICES of what PEOPLE may be", -1, x.people(year, 1, 1000));
            DUE.is("PEOPLE 999999", 999999, x.people(year, 0, 1000));
            DUE.is("PRICES 999", 999, x.people(year, 1, 100));
        }
    }

    private static void promise14() {
        DUE.says("How many: WILLS, SMALL, ROUNDED, RICH, YEARS that have a SHARE, COUNTS");
        BookOfWills x = new BookOfWills();
        Due.rules(x, "0:l5h1W");
        for (int i = 0; i < 24; i++) {
            x.will(i % 8, 0, i % 2, 0);
        }
        dueCounts(x, 24, 24, 0, 0, 0, 0);
        for (int i = 0; i < 24; i++) {
            x.had(i, 0, 6);
        }
        dueCounts(x, 24, 0, 24, 0, 8, 0);
        for (int i = 0; i < 24; i++) {
            x.had(i, 0, 7);
        }
        dueCounts(x, 24, 0, 0, 0, 8, 0);
        x.set(0, 7);
        dueCounts(x, 24, 0, 0, 24, 8, 0);
        for (int year = 0; year < 8; year++) {
            x.beside(year, year, year);
            x.beside(year, 0, year);
            DUE.is("COUNTS", year + 1, x.count(5));
        }
        for (int i = 0; i < 24; i++) {
            x.burn(0);
        }
        dueCounts(x, 0, 0, 0, 0, 0, 8);
    }

    private static void dueCounts(BookOfWills x, int... want) {
        for (int what = 0; what < 6; what++) {
            DUE.is("count(" + what + ")", want[what], x.count(what));
        }
    }

    private static void promise15Total() {
        DUE.says("TOTAL (0) of a YEAR");
        BookOfWills x = new BookOfWills();
        Due.rules(x, "0:f10");
        Due.wills(x, "20m9;20m10;20w11;30m12");
        DUE.is("of those in THE BOOK", 1000, x.total(2, 0));
        DUE.is("of another YEAR", 1200, x.total(3, 0));
        DUE.is("of none", 0, x.total(4, 0));
    }

    private static void promise15Unseen() {
        DUE.says("UNSEEN: (all that was HAD less what is SWORN) times WEIGHT (not in THE BOOK, too, at 100 LIVES)");
        BookOfWills x = new BookOfWills();
        DUE.is("of no WILLS", 0, x.total(0, 1));
        x.will(0, 0, 0, 9);
        DUE.is("all is SEEN", 0, x.total(0, 1));
        x.lives(0, 3);
        x.lives(1, 5);
        x.set(0, 100);
        x.set(1, 50);
        // RICH and in THE BOOK: 450 hundredths; RICH and not in THE BOOK: 500; the woman's: 300.
        Due.rules(x, "0:l200h9;1:f9999L;2:");
        Due.wills(x, "00m205l1;11m100g7;00w100l20;11m9999t1");
        DUE.is("ROUNDED, RICH; a woman's", 6 * 450 + 120 * 300, x.total(0, 1));
        DUE.is("not in THE BOOK, though RICHES or more are SWORN; in THE BOOK", 7 * 500 + 750, x.total(1, 1));
        BookOfWills most = new BookOfWills();
        Due.rules(most, "0:");
        most.lives(0, 400);
        for (int i = 0; i < 24; i++) {
            most.will(0, 0, 1, 9999);
            most.had(i, 1, 9999);
            most.had(i, 2, 9999);
            most.had(i, 3, 9999);
        }
        DUE.is("the greatest of women's", 24L * 39996 * 40000, most.total(0, 1));
        DUE.is("TOTAL of these", 0, most.total(0, 0));
    }

    private static void promise16() {
        DUE.says("SHARE of THE TOP of q: above (0), below (1), PARTS (2)");
        BookOfWills x = new BookOfWills();
        Due.wills(x, "70m3;70m1");
        DUE.is("above", 3, x.share(7, 1, 0));
        DUE.is("below", 4, x.share(7, 1, 1));
        DUE.is("PARTS", 75000, x.share(7, 1, 2));
        DUE.is("all, above", 1, x.share(7, 2, 0));
        DUE.is("all, below", 1, x.share(7, 2, 1));
        DUE.is("all, PARTS", 100000, x.share(7, 2, 2));
        DUE.is("NONE", -4, x.share(6, 1, 0));
    }

    private static void promise17() {
        DUE.says("MAKER of THE TOP of q (0), PARTS without it (1)");
        BookOfWills x = new BookOfWills();
        for (int i = 0; i < 23; i++) {
            x.will(0, 0, 0, 1);
        }
        x.will(0, 0, 0, 9999);
        DUE.is("the last of 24", 23, x.maker(0, 1, 0));
        DUE.is("PARTS without it: 1 of 23", 4347, x.maker(0, 1, 1));
        x.had(23, 0, 1);
        DUE.is("of 24 like ones", 0, x.maker(0, 1, 0));
        x.burn(23);
        x.had(0, 0, 0);
        DUE.is("the first of THE BOOK", 1, x.maker(0, 1, 0));
    }

    private static void promise18() {
        DUE.says("SPAN of PARTS of THE TOP of q: least (0), most (1)");
        BookOfWills x = new BookOfWills();
        for (int i = 0; i < 24; i++) {
            x.will(0, 0, 0, 1);
        }
        DUE.is("of 24 like ones, least: as it is", 4166, x.span(0, 1, 0));
        DUE.is("of 24 like ones, most", 4347, x.span(0, 1, 1));
        x.had(23, 0, 77);
        // 77 of 100; without it 1 of 23, without another 77 of 99.
        DUE.is("least", 4347, x.span(0, 1, 0));
        DUE.is("most", 77777, x.span(0, 1, 1));
    }

    private static void promise19() {
        DUE.says("SMOOTH PARTS. NONE: all TOTALS are 0");
        BookOfWills x = new BookOfWills();
        Due.wills(x, "30m3;30m1");
        for (int year = 0; year < 8; year++) {
            for (int k = 0; k <= 3; k++) {
                DUE.is("smooth(" + year + ", 1, " + k + ")", Math.abs(year - 3) <= k ? 75000 : -4, x.smooth(year, 1, k));
            }
        }
        // Sums are of what the tops have, not of their SHARES, each by PEOPLE of its own YEAR.
        Due.wills(x, "40m60;40m40");
        x.people(4, 0, 2000);
        DUE.is("of two YEARS", 10300 * 100000L / 10400, x.smooth(3, 1, 1));
    }

    private static void promise20() {
        DUE.says("JUMP: NONE: no two YEARS one behind the other have a SHARE");
        for (int year = 0; year < 8; year++) {
            BookOfWills x = new BookOfWills();
            x.will(year, 0, 0, 5);
            DUE.is("one YEAR", -4, x.jump(1, 0));
            if (year < 6) {
                x.will(year + 2, 0, 0, 5);
                DUE.is("with one between", -4, x.jump(1, 0));
                DUE.is("with one between, by", -4, x.jump(1, 1));
            }
            if (year < 7) {
                x.will(year + 1, 0, 0, 5);
                DUE.is("one behind the other", year, x.jump(1, 0));
                DUE.is("one behind the other, by", 0, x.jump(1, 1));
            } else {
                x.will(0, 0, 0, 5);
                DUE.is("the first is not behind the last", -4, x.jump(1, 0));
            }
        }
    }

    private static void calls512() {
        DUE.says("An object is used for at most 512 calls");
        BookOfWills x = new BookOfWills();
        for (int call = 0; call < 511; call += 2) {
            DUE.is("will", 0, x.will(0, 0, 0, 1));
            DUE.is("burn", 0, x.burn(0));
        }
        BookOfWills y = new BookOfWills();
        for (int call = 0; call < 512; call++) {
            DUE.is("type", call < 100 ? call + 1 : -3, y.type('0', 1));
        }
    }
}
