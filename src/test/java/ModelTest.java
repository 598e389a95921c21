import java.util.Random;

/** Long runs of calls drawn by seeds, each answer compared with that of a second, plainer program. */
public final class ModelTest {
    private static final Due DUE = new Due();
    private static final int RUNS = 1000;
    private static final int CALLS = 512;

    private final Random random;
    private final BookOfWills x = new BookOfWills();
    private final Model model = new Model();
    /** How many of a hundred numbers are drawn without regard to what they may be. */
    private final int wild;

    private ModelTest(long seed) {
        random = new Random(seed);
        wild = new int[] {0, 3, 10}[random.nextInt(3)];
    }

    public static void main(String[] args) {
        for (int seed = 0; seed < RUNS; seed++) {
            ModelTest run = new ModelTest(seed);
            for (int call = 0; call < CALLS; call++) {
                run.call(seed + "/" + call + ": ");
            }
        }
        DUE.end();
    }

    private int number(int least, int most) {
        if (random.nextInt(100) < wild) {
            int[] odd = {least - 1, most + 1, Integer.MIN_VALUE, Integer.MAX_VALUE, -1, 0, 24, 25, random.nextInt()};
            return odd[random.nextInt(odd.length)];
        }
        int kind = random.nextInt(8);
        return kind == 0 ? least : kind == 1 ? most : least + random.nextInt(most - least + 1);
    }

    private int year() {
        return number(0, random.nextBoolean() ? 7 : 2);
    }

    private int top() {
        int[] most = {1000, 100, 10, 3};
        return number(1, most[random.nextInt(4)]);
    }

    private int money() {
        int[] most = {9999, 600, 30};
        return number(0, most[random.nextInt(3)]);
    }

    private int will() {
        int n = model.wills.size();
        return number(0, n == 0 ? 0 : n - 1);
    }

    private void due(String call, long want, long got) {
        DUE.is(call, want, got);
    }

    private void call(String at) {
        switch (random.nextInt(5)) {
            case 0 -> change(at);
            case 1 -> text(at);
            case 2 -> sheets(at);
            case 3 -> living(at);
            default -> beside(at);
        }
    }

    private void change(String at) {
        switch (random.nextInt(9)) {
            case 0 -> {
                int age = number(0, 5), v = number(1, 400);
                due(at + "lives", model.lives(age, v), x.lives(age, v));
            }
            case 1 -> {
                int what = number(0, 1), v = number(0, what == 1 ? 100 : random.nextBoolean() ? 99999 : 600);
                due(at + "set", model.set(what, v), x.set(what, v));
            }
            case 2, 3 -> {
                int year = year(), age = number(0, 5), sex = number(0, 1), money = money();
                due(at + "will", model.will(year, age, sex, money), x.will(year, age, sex, money));
            }
            case 4, 5 -> {
                int will = will(), what = number(0, 3), v = money();
                due(at + "had", model.had(will, what, v), x.had(will, what, v));
            }
            case 6 -> {
                int will = will();
                due(at + "burn", model.burn(will), x.burn(will));
            }
            case 7 -> {
                int year = year(), what = number(0, 1), v = number(1, what == 1 ? 999 : random.nextBoolean() ? 999999 : 20);
                due(at + "people", model.people(year, what, v), x.people(year, what, v));
            }
            default -> {
                long seed = random.nextLong();
                int year = year(), n = number(1, random.nextInt(3) == 0 ? 24 : 3);
                due(at + "draw", model.draw(seed, year, n), x.draw(seed, year, n));
            }
        }
    }

    private void text(String at) {
        boolean laws = random.nextBoolean();
        String text = laws ? lawsText() : willsText();
        if (random.nextInt(3) == 0) {
            text = spoilt(text);
        }
        for (int from = 0; from < text.length(); from += 8) {
            String piece = text.substring(from, Math.min(from + 8, text.length()));
            long w = random.nextInt(128);
            for (int i = 0; i < piece.length(); i++) {
                w = w << 8 | piece.charAt(i);
            }
            int n = random.nextInt(100) < wild ? number(1, 8) : piece.length();
            due(at + "type", model.type(w, n), x.type(w, n));
        }
        if (laws) {
            due(at + "rules '" + model.tape + "'", model.rules(), x.rules());
        } else {
            due(at + "wills '" + model.tape + "'", model.willsOfTape(), x.wills());
        }
        for (int i = 0; i < 4; i++) {
            int year = year(), what = number(0, 3);
            due(at + "rule", model.rule(year, what), x.rule(year, what));
        }
        int will = will(), what = number(0, 7);
        due(at + "told", model.told(will, what), x.told(will, what));
    }

    private String blank() {
        return random.nextInt(8) == 0 ? " ".repeat(1 + random.nextInt(2)) : "";
    }

    private String numbered(String signs, int chance) {
        StringBuilder text = new StringBuilder();
        for (char sign : signs.toCharArray()) {
            if (random.nextInt(100) < chance) {
                int most = sign == 'h' ? 999 : random.nextBoolean() ? 9999 : 600;
                int v = random.nextInt(100) < wild ? most + random.nextInt(2) : random.nextInt(most + 1);
                text.append(sign).append(blank()).append(v).append(blank());
            }
        }
        return text.toString();
    }

    private String lawsText() {
        StringBuilder text = new StringBuilder(blank());
        int n = 1 + random.nextInt(random.nextInt(6) == 0 ? 9 : 3);
        for (int i = 0; i < n; i++) {
            text.append(i == 0 ? "" : ";").append(blank()).append(random.nextInt(8)).append(blank()).append(':').append(blank());
            text.append(numbered("flh", 50));
            for (char mark : "LGTW".toCharArray()) {
                text.append(random.nextBoolean() ? mark + blank() : "");
            }
        }
        return text.toString();
    }

    private String willsText() {
        StringBuilder text = new StringBuilder(blank());
        int n = 1 + random.nextInt(random.nextInt(6) == 0 ? 9 : 3);
        for (int i = 0; i < n; i++) {
            text.append(i == 0 ? "" : ";").append(blank()).append(random.nextInt(8)).append(blank()).append(random.nextInt(6));
            text.append(blank()).append(numbered(random.nextBoolean() ? "m" : "w", 100)).append(numbered("lgt", 40));
        }
        return text.toString();
    }

    private String spoilt(String text) {
        String signs = "0123456789 :;flhmwgtLGTWx~";
        int place = random.nextInt(text.length() + 1);
        char sign = signs.charAt(random.nextInt(signs.length()));
        switch (random.nextInt(4)) {
            case 0:
                return text.substring(0, place);
            case 1:
                return text.substring(0, place) + sign + text.substring(place);
            case 2:
                return place == text.length() ? text : text.substring(0, place) + text.substring(place + 1);
            default:
                return place == text.length() ? text + sign : text.substring(0, place) + sign + text.substring(place + 1);
        }
    }

    private void sheets(String at) {
        int sheet = number(0, 3), lane = lane(sheet), i = number(0, 24);
        switch (random.nextInt(8)) {
            case 0 -> {
                int n = number(0, 24);
                lane = number(0, 2);
                due(at + "sheet", model.sheet(sheet, lane, n), x.sheet(sheet, lane, n));
            }
            case 1 -> {
                if (random.nextInt(3) == 0) {
                    due(at + "drop", model.drop(sheet), x.drop(sheet));
                }
            }
            case 2, 3 -> {
                int v = random.nextBoolean() ? random.nextInt() : number(1, 1000);
                due(at + "item", model.item(sheet, lane, i, v), x.item(sheet, lane, i, v));
            }
            case 4 -> {
                int year = year(), first = random.nextInt(4);
                due(at + "book", model.book(year, sheet, lane, first), x.book(year, sheet, lane, first));
            }
            case 5 -> {
                int to = number(0, 3), j = number(0, 12), n = number(0, 12);
                i = number(0, 12);
                due(at + "copy", model.copy(sheet, i, to, j, n), x.copy(sheet, i, to, j, n));
            }
            default -> {
                // Few rows would be PEOPLE by chance.
                for (int k = 0; k < 24 && random.nextInt(40) != 0; k++) {
                    if (model.itemOr(sheet, k) < 1) {
                        due(at + "item", model.item(sheet, lane, k, k + 1), x.item(sheet, lane, k, k + 1));
                    }
                }
                i = number(0, 12);
                due(at + "crowds", model.crowds(sheet, lane, i), x.crowds(sheet, lane, i));
            }
        }
    }

    private int lane(int sheet) {
        return sheet >= 0 && sheet < 4 && model.lanes[sheet] >= 0 && random.nextInt(10) != 0 ? model.lanes[sheet] : number(0, 2);
    }

    private void living(String at) {
        int year = year(), q = top();
        switch (random.nextInt(7)) {
            case 0 -> {
                int what = number(0, 1);
                due(at + "total", model.total(year, what), x.total(year, what));
            }
            case 1 -> {
                int what = number(0, 2);
                due(at + "share", model.share(year, q, what), x.share(year, q, what));
            }
            case 2 -> {
                int what = number(0, 1);
                due(at + "maker", model.maker(year, q, what), x.maker(year, q, what));
            }
            case 3 -> {
                int what = number(0, 1);
                due(at + "span", model.span(year, q, what), x.span(year, q, what));
            }
            case 4 -> {
                int k = number(0, 3);
                due(at + "smooth", model.smooth(year, q, k), x.smooth(year, q, k));
            }
            case 5 -> {
                int what = number(0, 1);
                due(at + "jump", model.jump(q, what), x.jump(q, what));
            }
            default -> {
                int what = number(0, 5);
                due(at + "count", model.count(what), x.count(what));
            }
        }
    }

    private void beside(String at) {
        int year = year();
        switch (random.nextInt(8)) {
            case 0 -> {
                int of = year(), q = top();
                due(at + "alone", model.alone(year, of, q), x.alone(year, of, q));
            }
            case 1 -> {
                int q = top(), what = number(0, 1);
                due(at + "bounds", model.bounds(year, q, what), x.bounds(year, q, what));
            }
            case 2 -> {
                int years = number(1, 255), w = number(1, random.nextBoolean() ? 999 : 20), what = number(0, 3);
                due(at + "heap", model.heap(years, w, what), x.heap(years, w, what));
            }
            case 3 -> {
                long total = x.total(year, 0) + random.nextInt(3) - 1;
                long all = total + x.total(year, 1) + random.nextInt(3) - 1;
                long least = random.nextBoolean() ? all : 0;
                long most = random.nextBoolean() ? total : 1000000000000000L + (random.nextInt(20) == 0 ? 1 : 0);
                due(at + "beside", model.beside(year, least, most), x.beside(year, least, most));
            }
            case 4 -> due(at + "fights", model.fights(), x.fights());
            case 5 -> {
                int to = year(), what = number(0, 2);
                due(at + "fall", model.fall(year, to, what), x.fall(year, to, what));
            }
            case 6 -> {
                if (random.nextInt(4) == 0) {
                    due(at + "image", model.image(), x.image());
                }
            }
            default -> {
                if (random.nextInt(4) == 0) {
                    due(at + "restore", model.restore(), x.restore());
                }
            }
        }
    }
}
