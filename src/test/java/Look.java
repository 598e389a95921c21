import java.util.ArrayList;
import java.util.List;

/** All that calls can tell of an object, so that a test can see whether a call changed something. */
final class Look {
    /** What is done with an object; most deeds are one call, and answer what it did. */
    interface Deed {
        long on(BookOfWills x);
    }

    private interface Part {
        void look(BookOfWills x, List<Long> seen);
    }

    /** Many a look changes what it looks at, and an object is good for 512 calls: so each part has an object of its own. */
    private static final Part[] PARTS = {
        Look::wills,
        Look::settings,
        Look::counts,
        Look::tape,
        Look::sheets,
        (x, seen) -> {
            seen.add((long) x.restore());
            wills(x, seen);
        },
        (x, seen) -> {
            seen.add((long) x.restore());
            settings(x, seen);
        },
        (x, seen) -> {
            seen.add((long) x.restore());
            counts(x, seen);
        },
    };

    private Look() {
    }

    /** All that can be told of a new object behind these deeds. */
    static List<Long> behind(Deed... deeds) {
        List<Long> seen = new ArrayList<>();
        for (Part part : PARTS) {
            BookOfWills x = new BookOfWills();
            for (Deed deed : deeds) {
                deed.on(x);
            }
            part.look(x, seen);
        }
        return seen;
    }

    private static void wills(BookOfWills x, List<Long> seen) {
        for (int will = 0; will < 24; will++) {
            for (int what = 0; what < 8; what++) {
                seen.add((long) x.told(will, what));
            }
            for (int what = 0; what < 4; what++) {
                seen.add((long) x.had(will, what, 0));
            }
        }
    }

    private static void settings(BookOfWills x, List<Long> seen) {
        for (int what = 0; what < 6; what++) {
            seen.add((long) x.count(what));
        }
        for (int year = 0; year < 8; year++) {
            for (int what = 0; what < 4; what++) {
                seen.add((long) x.rule(year, what));
            }
            seen.add(x.total(year, 0));
            seen.add(x.total(year, 1));
            seen.add(x.share(year, 7, 2));
            seen.add((long) x.people(year, 0, 1));
            seen.add((long) x.people(year, 1, 1));
        }
        for (int age = 0; age < 6; age++) {
            seen.add((long) x.lives(age, 1));
        }
        seen.add((long) x.set(0, 0));
        seen.add((long) x.set(1, 0));
    }

    /** COUNTS of a YEAR can be told only by whether they fight with one TOTAL or another. */
    private static void counts(BookOfWills x, List<Long> seen) {
        seen.add((long) x.count(5));
        seen.add((long) x.fights());
        while (x.count(0) > 0) {
            x.burn(0);
        }
        x.lives(0, 1);
        x.set(1, 0);
        // Whatever stands on THE TAPE goes first.
        x.rules();
        Due.rules(x, "0:");
        for (int money : new int[] {0, 1, 4, 5, 7, 8}) {
            for (int year = 0; year < 8; year++) {
                x.will(year, 0, 0, money);
            }
            seen.add((long) x.fights());
            while (x.count(0) > 0) {
                x.burn(0);
            }
        }
    }

    /** What stands on THE TAPE can be told only as RULES. */
    private static void tape(BookOfWills x, List<Long> seen) {
        seen.add((long) x.type('9', 1));
        seen.add((long) x.rules());
        for (int year = 0; year < 8; year++) {
            for (int what = 0; what < 4; what++) {
                seen.add((long) x.rule(year, what));
            }
        }
        seen.add((long) x.rules());
    }

    /** Items can be told only eight at once, as PEOPLE. */
    private static void sheets(BookOfWills x, List<Long> seen) {
        for (int sheet = 0; sheet < 4; sheet++) {
            for (int lane = 0; lane < 3; lane++) {
                for (int i = 0; i <= 16; i += 8) {
                    seen.add((long) x.crowds(sheet, lane, i));
                    for (int year = 0; year < 8; year++) {
                        seen.add((long) x.people(year, 0, 1));
                    }
                }
            }
            seen.add((long) x.drop(sheet));
        }
    }
}
