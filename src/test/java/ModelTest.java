import java.nio.charset.StandardCharsets;
import java.util.Random;

/** Long runs of calls, the same every time, on the class and on the Model: all answers must be the same. */
final class ModelTest {
    private static final int RUNS = Integer.getInteger("runs", 150);
    /** What an object answers behind 512 calls is free; a step makes no more than 40. */
    private static final int CALLS = 512 - 40;

    private final Random random;
    private final BlankRations real = new BlankRations();
    private final Model model = new Model();
    private final StringBuilder told = new StringBuilder();
    private int calls = 0;
    private boolean isSame = true;

    private ModelTest(int seed) {
        random = new Random(seed);
    }

    static void run() {
        for (int seed = 1; seed <= RUNS && Check.failed == 0; seed++) {
            ModelTest test = new ModelTest(seed);
            test.fill();
            while (test.calls < CALLS && test.isSame) {
                test.step();
            }
            Check.holds("run " + seed + " is as the model's", test.isSame);
            if (!test.isSame) {
                System.out.println(test.told);
            }
        }
    }

    private int any(int least, int most) {
        return least + random.nextInt(most - least + 1);
    }

    /** Mostly within the bounds, at times at them or just beyond. */
    private int near(int least, int most) {
        int way = any(0, 19);
        if (way == 0) {
            return least - any(0, 1);
        }
        if (way == 1) {
            return most + any(0, 1);
        }
        if (way == 2 && any(0, 9) == 0) {
            return random.nextInt();
        }
        return any(least, most);
    }

    private int one() {
        calls++;
        int most = Math.max(0, real.many(0) - 1);
        return near(0, most);
    }

    private int wild() {
        switch (any(0, 5)) {
            case 0: return Integer.MIN_VALUE;
            case 1: return random.nextInt();
            case 2: return -1;
            default: return any(-300, 300);
        }
    }

    /** In most runs there are PEOPLE and things on the shelves from the start. */
    private void fill() {
        int people = any(0, 9);
        for (int i = 0; i < people; i++) {
            same("person", any(0, 5), any(0, 99), any(0, 9), any(0, 2));
        }
        for (int i = 0; i < 4; i++) {
            same("shelf", i, 0, any(0, 7));
        }
    }

    private void step() {
        int way = any(0, 199);
        if (way < 2) {
            tell(text());
            same("post");
        } else if (way < 3) {
            same("again");
        } else {
            stepOn(way / 2);
        }
    }

    private void stepOn(int way) {
        if (way < 35) {
            build();
        } else if (way < 60) {
            askTried();
        } else if (way < 70) {
            askRows();
        } else if (way < 92) {
            askThings();
        } else {
            observe();
        }
    }

    private void build() {
        switch (any(0, 15)) {
            case 0: case 1: same("set", near(0, 3), near(0, any(0, 1) == 0 ? 9 : 99)); break;
            case 2: same("lawOf", near(0, 3)); break;
            case 3: case 4: same("person", near(0, 5), near(0, 99), near(0, 9), any(0, 2) == 0 ? near(0, 99) : near(0, 3)); break;
            case 5: same("mind", one(), near(0, 5), near(0, 9)); break;
            case 6: same("thought", one(), near(0, 99)); break;
            case 7: same("own", one(), any(0, 1) == 0 ? near(0, 2) : near(0, 99)); break;
            case 8: same("give", one(), one()); break;
            case 9: same("weeks", any(0, 1) == 0 ? near(1, 60) : near(1, 4)); break;
            case 10: same("seed", wild()); break;
            case 11: case 12: same("week"); break;
            case 13: same("keep"); break;
            case 14: same("week"); break;
            default: same("feed", random.nextLong(), near(1, 8)); break;
        }
    }

    private void askTried() {
        switch (any(0, 13)) {
            case 0: same("words", near(0, 60)); break;
            case 1: same("gets", one()); break;
            case 2: same("idle"); break;
            case 3: { int n = near(1, 20); same("vanFor", n, asked(n)); break; }
            case 4: same("kindFor", one(), near(1, 20)); break;
            case 5: same("thoughtFor", one(), near(1, 20)); break;
            case 6: same("needed", near(1, 20)); break;
            case 7: { int n = near(1, 10); same("fewest", n, asked(n)); break; }
            case 8: same("packed", near(1, 99)); break;
            case 9: fit(); break;
            case 10: { int n = near(0, 8); same("odds", n, near(0, Math.max(0, n)), near(0, 1)); break; }
            case 11: same("hope", near(0, 99), near(0, 1)); break;
            default: same("poor", near(1, 30)); break;
        }
    }

    /** About as many words as are said. */
    private int asked(int n) {
        int words = Math.max(0, wordsBy(n));
        return any(0, 9) == 0 ? near(0, 9999) : any(words / 2, words * 5 / 4 + 1);
    }

    private int wordsBy(int n) {
        calls++;
        return real.words(n);
    }

    private void fit() {
        int sheet = near(0, 3);
        int n = any(0, 4);
        same("sheet", sheet, any(1, 3), n);
        for (int i = 0; i < n; i++) {
            same("put", sheet, i, any(0, 2) == 0 ? -1 : wordsBy(i + 1));
        }
        int person = one();
        same("fits", sheet, person, 0);
        same("fits", sheet, person, near(0, 1));
    }

    private void askRows() {
        switch (any(0, 4)) {
            case 0: same("prove", one(), near(1, 10)); break;
            case 1: same("row", near(0, 10), near(0, 2)); break;
            case 2: same("alterRow", near(0, 10), near(0, 2), wild()); break;
            case 3: { int p = one(); same("prove", p, near(1, 10)); same("judge", p); break; }
            default: same("judge", one()); break;
        }
    }

    private void askThings() {
        switch (any(0, 11)) {
            case 0: case 1: same("sheet", near(0, 3), near(-1, 3), any(0, 2) == 0 ? near(0, 40) : near(0, 8)); break;
            case 2: case 3: same("put", near(0, 3), near(0, 7), wild()); break;
            case 4: same("item", near(0, 3), near(0, 3), near(0, 7)); break;
            case 5: same("minds", near(0, 3), near(0, 8), one(), near(0, 8)); break;
            case 6: same("minds", near(0, 3), near(0, 4), 0, near(0, 3)); break;
            case 7: same("shelf", near(0, 3), near(0, 2), near(0, 7)); break;
            case 8: same("shelf", near(0, 3), 0, one()); break;
            case 9: same("taken", near(0, 3), near(0, 13)); break;
            default:
                int shelf = near(0, 3);
                if (any(0, 1) == 0) {
                    same("shelf", shelf, 0, one());
                }
                same("act", shelf, near(0, 3), wild());
                same("many", 6);
                for (int i = 0; i < 12; i++) {
                    same("trace", i);
                }
        }
    }

    private void observe() {
        for (int what = 0; what <= 6; what++) {
            same("many", what);
            same("state", what);
        }
        for (int p = 0; p < 9; p++) {
            int what = any(0, 6);
            same("of", p, what);
            same("does", p, any(0, 4));
        }
    }

    // ---- texts

    private String text() {
        StringBuilder text = new StringBuilder();
        int statements = any(0, 10);
        for (int i = 0; i < statements; i++) {
            text.append(blanks(0)).append(statement());
        }
        if (any(0, 2) == 0 && text.length() > 0) {
            spoil(text);
        }
        text.setLength(Math.min(text.length(), 200));
        return text.toString();
    }

    private String blanks(int least) {
        return " ".repeat(least + (any(0, 5) == 0 ? any(0, 3) : 0));
    }

    private String statement() {
        if (any(0, 3) == 0) {
            String law = new String[] {"van", "lines", "rub", "slip"}[any(0, 3)];
            return law + blanks(any(0, 9) == 0 ? 0 : 1) + number(9) + blanks(0) + ";";
        }
        String kind = new String[] {"asker", "novelist", "widow", "poet", "sister", "boy"}[any(0, 5)];
        return kind + option("thought", 99) + option("hand", 9) + option("pages", 99) + blanks(0) + ";";
    }

    private String option(String name, int most) {
        return any(0, 1) == 0 ? "" : blanks(1) + name + blanks(1) + number(most);
    }

    private String number(int most) {
        String digits = Integer.toString(near(0, most) & 2047);
        return any(0, 9) == 0 ? "0".repeat(any(1, 3)) + digits : digits;
    }

    private void spoil(StringBuilder text) {
        int at = any(0, text.length() - 1);
        switch (any(0, 4)) {
            case 0: text.setLength(at); break;
            case 1: text.deleteCharAt(at); break;
            case 2: text.setCharAt(at, (char) any(0, 255)); break;
            case 3: text.insert(at, ";"); break;
            default: text.insert(at, new String[] {" ", "7", "a", "asker", "hand 3", "\n"}[any(0, 5)]); break;
        }
    }

    private void tell(String text) {
        byte[] bytes = text.getBytes(StandardCharsets.ISO_8859_1);
        calls++;
        if (real.many(5) > 0) {
            same("post");
        }
        for (int i = 0; i < bytes.length; i += 8) {
            int n = Math.min(8, bytes.length - i);
            long eight = 0;
            for (int k = 0; k < n; k++) {
                eight |= (bytes[i + k] & 255L) << 8 * k;
            }
            same("feed", eight, n);
        }
    }

    // ---- both at once

    private void same(String name, long... v) {
        if (!isSame) {
            return;
        }
        calls++;
        long got = Face.call(real, name, v);
        long want = model.call(name, v);
        told.append(name).append(java.util.Arrays.toString(v)).append(' ').append(got).append('\n');
        if (got != want) {
            isSame = false;
            told.append("due is ").append(want).append('\n');
        }
    }
}
