import java.math.BigInteger;
import java.nio.charset.StandardCharsets;
import java.util.ArrayList;
import java.util.Arrays;
import java.util.List;
import java.util.regex.Matcher;
import java.util.regex.Pattern;

/**
 * The document once more, written from it anew and by other means than the class (a class for each KIND,
 * rows that are Java's own, exceptions, brute force), for ModelTest to hold the class against.
 */
final class Model {
    /** What a refusal answers, thrown to the face. */
    private static final class Refusal extends RuntimeException {
        private static final long serialVersionUID = 1L;
        final int answer;

        Refusal(int answer) {
            super(null, null, false, false);
            this.answer = answer;
        }
    }

    private static void must(boolean is, int else_) {
        if (!is) {
            throw new Refusal(else_);
        }
    }

    // ---- people

    static class Asker {
        int n, a, thought, pages, got, said;

        int kind() { return 0; }
        int thinks(Office o) { return 2; }
        int needs(Office o) { return 10; }
        int says(Office o) { return 1 + a; }
        boolean uses(Office o) { return true; }

        int thinks(List<Integer> ran, int x) { ran.add(10); return x * 4 - n; }
        int asks(List<Integer> ran, int x) { ran.add(11); return thinks(ran, x) + a; }
        int parts(List<Integer> ran, int x) { ran.add(12); return x / (a - n); }
        int writes(List<Integer> ran, int x) { ran.add(13); return asks(ran, x) ^ 10; }

        final Asker as(int kind) {
            Asker[] all = {new Asker(), new Novelist(), new Widow(), new Poet(), new Sister(), new Boy()};
            Asker one = all[kind];
            one.n = n;
            one.a = a;
            one.thought = thought;
            one.pages = pages;
            one.got = got;
            one.said = said;
            return one;
        }
    }

    static class Novelist extends Asker {
        @Override int kind() { return 1; }
        @Override int thinks(Office o) { return super.thinks(o) + 1; }
        @Override int needs(Office o) { return super.needs(o) + o.law[1]; }
        @Override int says(Office o) { return super.says(o) * 2; }
        @Override int asks(List<Integer> ran, int x) { ran.add(20); return super.asks(ran, x) * 3; }
    }

    static final class Poet extends Novelist {
        @Override int kind() { return 3; }
        @Override int thinks(Office o) { return super.thinks(o) * 2; }
        @Override int needs(Office o) { return super.needs(o) - a; }
        @Override int says(Office o) { return super.says(o) - 1; }
        @Override int parts(List<Integer> ran, int x) { ran.add(50); return super.parts(ran, x * 2) - n; }
        @Override int thinks(List<Integer> ran, int x) { ran.add(51); return super.thinks(ran, x) - a; }
    }

    static class Widow extends Asker {
        @Override int kind() { return 2; }
        @Override int thinks(Office o) { return super.thinks(o) - 1; }
        @Override int needs(Office o) { return super.needs(o) * 2; }
        @Override int says(Office o) { return super.says(o) + o.law[2]; }
        @Override boolean uses(Office o) { return o.week % 2 == 1; }
        @Override int thinks(List<Integer> ran, int x) { ran.add(30); return 0 - super.thinks(ran, x); }
        @Override int writes(List<Integer> ran, int x) { ran.add(31); return super.writes(ran, x) + parts(ran, n); }
    }

    static final class Sister extends Widow {
        @Override int kind() { return 4; }
        @Override int thinks(Office o) { return super.thinks(o) + o.law[2]; }
        @Override int needs(Office o) { return super.needs(o) - 5; }
        @Override int says(Office o) { return super.says(o) + (pages > 1 ? pages - 1 : 0); }
        @Override boolean uses(Office o) { return super.uses(o) && o.week % 3 == 0; }
        @Override int thinks(List<Integer> ran, int x) { ran.add(40); return super.thinks(ran, x) + 2; }
        @Override int asks(List<Integer> ran, int x) { ran.add(41); return super.asks(ran, x) ^ thinks(ran, a); }
    }

    static final class Boy extends Asker {
        @Override int kind() { return 5; }
        @Override int thinks(Office o) { return super.thinks(o) + a; }
        @Override int needs(Office o) { return super.needs(o) - 7; }
        @Override int says(Office o) { return 0; }
        @Override boolean uses(Office o) { return false; }
        @Override int writes(List<Integer> ran, int x) { ran.add(60); return 8 - super.writes(ran, x); }
        @Override int parts(List<Integer> ran, int x) { ran.add(61); return super.parts(ran, x) - thinks(ran, n); }
    }

    static final class Office {
        int[] law = {3, 2, 1, 20};
        int week, back, z = 1;
        List<Asker> people = new ArrayList<>();

        Office copy() {
            Office o = new Office();
            o.law = law.clone();
            o.week = week;
            o.back = back;
            o.z = z;
            for (Asker p : people) {
                o.people.add(p.as(p.kind()));
            }
            return o;
        }

        Asker one(int i) {
            must(i >= 0 && i < people.size(), -1);
            return people.get(i);
        }

        int join(int kind, int thought, int hand, int pages) {
            Asker p = new Asker();
            p.n = people.size();
            p.thought = thought;
            p.a = hand;
            p.pages = pages;
            people.add(p.as(kind));
            return p.n;
        }

        int pass(int nothingFor) {
            for (Asker p : people) {
                p.thought = Math.min(99, p.thought + p.thinks(this));
            }
            for (int i = 0; i < law[0]; i++) {
                Asker best = null;
                for (Asker p : people) {
                    boolean may = p.thought >= p.needs(this) && p.pages < 99 && (nothingFor & 1 << p.n) == 0;
                    if (may && (best == null || p.thought - p.needs(this) > best.thought - best.needs(this))) {
                        best = p;
                    }
                }
                if (best == null) {
                    back = Math.min(9999, back + 1);
                    continue;
                }
                best.pages++;
                best.got = Math.min(9999, best.got + 1);
                best.thought -= best.needs(this);
            }
            int all = 0;
            for (Asker p : people) {
                if (p.pages > 0) {
                    int s = p.says(this);
                    all += s;
                    p.said = Math.min(99999, p.said + s);
                    p.pages -= p.uses(this) ? 1 : 0;
                }
            }
            week++;
            return all;
        }

        int draw() {
            z = z * 1103515245 + 12345;
            return z >>> 16;
        }

        int byDraws() {
            if (!people.isEmpty()) {
                Asker p = people.get(draw() % people.size());
                if (draw() % 100 < law[3]) {
                    p.thought = p.thought / 2;
                }
            }
            return pass(0);
        }

        int words(int n, int nothingFor) {
            int all = 0;
            for (int i = 0; i < n; i++) {
                all += pass(nothingFor);
            }
            return all;
        }
    }

    // ---- the object

    private Office now = new Office();
    private Office kept = null;
    private byte[] tape = {};
    private List<int[]> rows = new ArrayList<>();
    private final Object[] sheets = new Object[4];
    private final Object[] shelves = new Object[4];
    private List<Integer> ran = new ArrayList<>();

    /** A call by its name and numbers, as the face takes them. */
    long call(String name, long... v) {
        int[] a = new int[8];
        for (int i = 0; i < v.length; i++) {
            a[i] = (int) v[i];
        }
        try {
            switch (name) {
                case "feed": return feed(v[0], a[1]);
                case "post": return post();
                case "set": return set(a[0], a[1]);
                case "lawOf": range(a[0], 0, 3); return now.law[a[0]];
                case "person": return person(a[0], a[1], a[2], a[3]);
                case "of": return of(now.one(a[0]), a[1]);
                case "does": return does(now.one(a[0]), a[1]);
                case "mind": return mind(now.one(a[0]), a[1], a[2]);
                case "thought": return thought(now.one(a[0]), a[1]);
                case "own": return own(now.one(a[0]), a[1]);
                case "give": return give(now.one(a[0]), now.one(a[1]));
                case "weeks": range(a[0], 1, 60); now.words(a[0], 0); return state(3);
                case "seed": { int was = now.z; now.z = a[0]; return was; }
                case "week": return now.byDraws();
                case "poor": return poor(a[0]);
                case "state": return state(a[0]);
                default: return callTried(name, a);
            }
        } catch (Refusal r) {
            return r.answer;
        }
    }

    private long callTried(String name, int[] a) {
        switch (name) {
            case "words": range(a[0], 0, 60); return now.copy().words(a[0], 0);
            case "gets": return gets(now.one(a[0]));
            case "idle": return idle();
            case "vanFor": return vanFor(a[0], a[1]);
            case "kindFor": return kindFor(now.one(a[0]), a[1]);
            case "thoughtFor": return thoughtFor(now.one(a[0]), a[1]);
            case "needed": return needed(a[0]);
            case "fewest": return fewest(a[0], a[1]);
            case "packed": return packed(a[0]);
            case "fits": return fits(a[0], a[1], a[2]);
            case "odds": return odds(a[0], a[1], a[2]);
            case "hope": return hope(a[0], a[1]);
            case "prove": return prove(now.one(a[0]), a[1]);
            case "row": return inRow(a[0], a[1])[a[1]];
            case "alterRow": { int[] r = inRow(a[0], a[1]); int was = r[a[1]]; r[a[1]] = a[2]; return was; }
            case "judge": return judge(now.one(a[0]));
            default: return callThings(name, a);
        }
    }

    private long callThings(String name, int[] a) {
        switch (name) {
            case "minds": return minds(a[0], a[1], a[2], a[3]);
            case "sheet": return sheet(a[0], a[1], a[2]);
            case "put": return put(a[0], a[1], a[2]);
            case "item": return item(a[0], a[1], a[2]);
            case "shelf": return shelf(a[0], a[1], a[2]);
            case "taken": return taken(a[0], a[1]);
            case "act": return act(a[0], a[1], a[2]);
            case "trace": must(a[0] >= 0 && a[0] < Math.min(30, ran.size()), -3); return ran.get(a[0]);
            case "many": return many(a[0]);
            case "keep": kept = now.copy(); return 1;
            case "again": must(kept != null, -3); now = kept.copy(); return now.people.size();
            default: throw new IllegalArgumentException(name);
        }
    }

    private static void range(int v, int least, int most) {
        must(v >= least && v <= most, -1);
    }

    private int feed(long eight, int n) {
        range(n, 1, 8);
        must(tape.length + n <= 200, -2);
        byte[] longer = Arrays.copyOf(tape, tape.length + n);
        for (int i = 0; i < n; i++) {
            longer[tape.length + i] = (byte) (eight >> 8 * i);
        }
        tape = longer;
        return tape.length;
    }

    // ---- the text

    private static final class Token {
        final String text;
        final int at;

        Token(String text, int at) {
            this.text = text;
            this.at = at;
        }
    }

    private static final List<String> KINDS = List.of("asker", "novelist", "widow", "poet", "sister", "boy");
    private static final List<String> LAWS = List.of("van", "lines", "rub", "slip");
    private static final int[] LAW_MOST = {9, 9, 9, 99};

    private List<Token> tokens;

    private int post() {
        String text = new String(tape, StandardCharsets.ISO_8859_1);
        tape = new byte[0];
        tokens = new ArrayList<>();
        Matcher m = Pattern.compile("[a-z]+|[0-9]+|[^ ]").matcher(text);
        while (m.find()) {
            tokens.add(new Token(m.group(), m.start()));
        }
        tokens.add(new Token("", text.length()));
        Office o = new Office();
        o.z = now.z;
        while (!tokens.get(0).text.isEmpty()) {
            tellOne(o);
        }
        now = o;
        rows = new ArrayList<>();
        return o.people.size();
    }

    private void tellOne(Office o) {
        Token t = tokens.remove(0);
        int law = LAWS.indexOf(t.text);
        int kind = KINDS.indexOf(t.text);
        must(law >= 0 || kind >= 0 && o.people.size() < 8, -100 - t.at);
        if (law >= 0) {
            o.law[law] = number(LAW_MOST[law]);
        } else {
            o.join(kind, behind("thought", 99), behind("hand", 9), behind("pages", 99));
        }
        Token end = tokens.get(0);
        must(end.text.equals(";"), -100 - end.at);
        tokens.remove(0);
    }

    private int behind(String name, int most) {
        if (!tokens.get(0).text.equals(name)) {
            return 0;
        }
        tokens.remove(0);
        return number(most);
    }

    private int number(int most) {
        Token t = tokens.get(0);
        must(t.text.matches("[0-9]{1,3}") && Integer.parseInt(t.text) <= most, -100 - t.at);
        tokens.remove(0);
        return Integer.parseInt(t.text);
    }

    // ---- laws, people, weeks

    private int set(int law, int v) {
        range(law, 0, 3);
        range(v, 0, LAW_MOST[law]);
        int was = now.law[law];
        now.law[law] = v;
        return was;
    }

    private int person(int kind, int thought, int hand, int pages) {
        range(kind, 0, 5);
        range(thought, 0, 99);
        range(hand, 0, 9);
        range(pages, 0, 99);
        must(now.people.size() < 8, -2);
        return now.join(kind, thought, hand, pages);
    }

    private int of(Asker p, int what) {
        range(what, 0, 5);
        return new int[] {p.kind(), p.thought, p.a, p.pages, p.got, p.said}[what];
    }

    private int does(Asker p, int what) {
        range(what, 0, 3);
        return 1000 + new int[] {p.thinks(now), p.needs(now), p.says(now), p.uses(now) ? 1 : 0}[what];
    }

    private int mind(Asker p, int kind, int hand) {
        range(kind, 0, 5);
        range(hand, 0, 9);
        Asker other = p.as(kind);
        other.a = hand;
        now.people.set(p.n, other);
        return p.kind();
    }

    private int thought(Asker p, int v) {
        range(v, 0, 99);
        int was = p.thought;
        p.thought = v;
        return was;
    }

    private int own(Asker p, int v) {
        range(v, 0, 99);
        int was = p.pages;
        p.pages = v;
        return was;
    }

    private int give(Asker p, Asker other) {
        must(p != other, -1);
        must(p.pages > 0 && other.pages < 99, -3);
        p.pages--;
        return ++other.pages;
    }

    private int poor(int n) {
        range(n, 1, 30);
        int due = now.copy().words(1, 0);
        int z = now.z;
        int poor = 0;
        for (int i = 0; i < n; i++) {
            Office o = now.copy();
            o.z = z;
            poor += o.byDraws() < due ? 1 : 0;
            z = o.z;
        }
        return poor;
    }

    private int state(int what) {
        range(what, 0, 5);
        int[] sums = {now.week, now.back, 0, 0, 0, 0};
        for (Asker p : now.people) {
            sums[2] += p.said;
            sums[3] += p.pages;
            sums[4] += p.thought;
            sums[5] += p.thought >= p.needs(now) ? 1 << p.n : 0;
        }
        return sums[what];
    }

    // ---- tried

    private int gets(Asker p) {
        Office o = now.copy();
        for (int n = 0; n <= 60; n++) {
            if (o.one(p.n).got > p.got) {
                return n;
            }
            o.pass(0);
        }
        return -3;
    }

    private int idle() {
        for (int n = 0; n <= 60; n++) {
            Office o = now.copy();
            o.words(n, 0);
            if (o.people.stream().allMatch(p -> p.pages == 0)) {
                return n;
            }
        }
        return -3;
    }

    private int vanFor(int n, int v) {
        range(n, 1, 20);
        range(v, 0, 9999);
        for (int van = 0; van <= 9; van++) {
            Office o = now.copy();
            o.law[0] = van;
            if (o.words(n, 0) >= v) {
                return van;
            }
        }
        return -3;
    }

    private int kindFor(Asker p, int n) {
        range(n, 1, 20);
        int best = 0;
        int[] said = new int[6];
        for (int k = 5; k >= 0; k--) {
            Office o = now.copy();
            o.people.set(p.n, p.as(k));
            said[k] = o.words(n, 0);
            best = k == 5 || said[k] >= said[best] ? k : best;
        }
        return best;
    }

    private int thoughtFor(Asker p, int n) {
        range(n, 1, 20);
        for (int t = 0; t <= 99; t++) {
            Office o = now.copy();
            o.one(p.n).thought = t;
            o.one(p.n).got = 0;
            o.words(n, 0);
            if (o.one(p.n).got > 0) {
                return t;
            }
        }
        return -3;
    }

    private int needed(int n) {
        range(n, 1, 20);
        int all = now.copy().words(n, 0);
        int best = -3;
        int least = all;
        for (int i = now.people.size() - 1; i >= 0; i--) {
            int said = now.copy().words(n, 1 << i);
            if (said < all && said <= least) {
                best = i;
                least = said;
            }
        }
        return best;
    }

    private int fewest(int n, int v) {
        range(n, 1, 10);
        range(v, 0, 9999);
        int best = -3;
        int all = (1 << now.people.size()) - 1;
        for (int set = all; set >= 0; set--) {
            boolean smaller = best < 0 || Integer.bitCount(set) <= Integer.bitCount(best);
            if (smaller && now.copy().words(n, all & ~set) >= v) {
                best = set;
            }
        }
        return best;
    }

    private int packed(int r) {
        range(r, 1, 99);
        List<Integer> whole = new ArrayList<>();
        for (Asker p : now.people) {
            must(p.thought <= r, -3);
            if (p.thought > 0) {
                whole.add(p.thought);
            }
        }
        return pack(whole, new int[8], 0, 0, r);
    }

    /** The least of all ways to put the thoughts from i on, with some pages begun. */
    private static int pack(List<Integer> whole, int[] full, int begun, int i, int r) {
        if (i == whole.size()) {
            return begun;
        }
        int least = 99;
        for (int page = 0; page <= begun && page < 8; page++) {
            if (full[page] + whole.get(i) <= r) {
                full[page] += whole.get(i);
                least = Math.min(least, pack(whole, full, Math.max(begun, page + 1), i + 1, r));
                full[page] -= whole.get(i);
            }
        }
        return least;
    }

    private int fits(int sheet, int person, int what) {
        range(sheet, 0, 3);
        now.one(person);
        range(what, 0, 1);
        must(sheets[sheet] != null, -11);
        List<Integer> fit = new ArrayList<>();
        for (int t = 0; t <= 99; t++) {
            Office o = now.copy();
            o.one(person).thought = t;
            boolean right = true;
            long said = 0;
            for (int i = 0; i < size(sheets[sheet]); i++) {
                said += o.pass(0);
                long told = read(sheets[sheet], i);
                right &= told == -1 || told == said;
            }
            if (right) {
                fit.add(t);
            }
        }
        must(what == 0 || !fit.isEmpty(), -3);
        return what == 0 ? fit.size() : fit.get(0);
    }

    private long odds(int n, int k, int part) {
        range(n, 0, 8);
        range(k, 0, n);
        range(part, 0, 1);
        BigInteger above = BigInteger.ONE;
        for (int i = 0; i < k; i++) {
            above = above.multiply(BigInteger.valueOf((long) (n - i) * now.law[3]));
        }
        for (int i = 1; i <= k; i++) {
            above = above.divide(BigInteger.valueOf(i));
        }
        above = above.multiply(BigInteger.valueOf(100 - now.law[3]).pow(n - k));
        return part(above, BigInteger.valueOf(100).pow(n), part);
    }

    private long hope(int n, int part) {
        range(n, 0, 99);
        range(part, 0, 1);
        return part(BigInteger.valueOf(n * now.law[3]), BigInteger.valueOf(100), part);
    }

    private static long part(BigInteger above, BigInteger below, int part) {
        return (part == 0 ? above : below).divide(above.gcd(below)).longValueExact();
    }

    // ---- rows

    private List<int[]> rowsOf(Asker p, int n) {
        List<int[]> told = new ArrayList<>();
        Office o = now.copy();
        for (int i = 0; i < n; i++) {
            int said = o.pass(0);
            told.add(new int[] {o.one(p.n).thought, o.one(p.n).pages, said});
        }
        return told;
    }

    private int prove(Asker p, int n) {
        range(n, 1, 10);
        rows = rowsOf(p, n);
        return n;
    }

    private int[] inRow(int i, int what) {
        must(i >= 0 && i < rows.size() && what >= 0 && what < 3, -9);
        return rows.get(i);
    }

    private int judge(Asker p) {
        List<int[]> due = rowsOf(p, rows.size());
        for (int i = 0; i < due.size(); i++) {
            if (!Arrays.equals(due.get(i), rows.get(i))) {
                return i + 1;
            }
        }
        return 0;
    }

    // ---- things

    private static int size(Object row) {
        return java.lang.reflect.Array.getLength(row);
    }

    private static long read(Object row, int i) {
        return java.lang.reflect.Array.getLong(row, i);
    }

    private static int sortOf(Object row) {
        return row instanceof byte[] ? 0 : row instanceof short[] ? 1 : row instanceof int[] ? 2 : 3;
    }

    private int minds(int sheet, int i, int person, int n) {
        range(sheet, 0, 3);
        now.one(person);
        range(n, 0, 8);
        must(person + n <= now.people.size(), -1);
        must(sheets[sheet] != null, -11);
        must(sheets[sheet] instanceof byte[], -13);
        byte[] row = (byte[]) sheets[sheet];
        must(i >= 0 && i <= row.length && i + n <= row.length, -12);
        for (int k = 0; k < n; k++) {
            now.one(person + k).thought = row[i + k] < 0 ? 0 : row[i + k] > 99 ? 99 : row[i + k];
        }
        return n;
    }

    private int sheet(int sheet, int sort, int n) {
        range(sheet, 0, 3);
        range(sort, -1, 3);
        if (sort == -1) {
            sheets[sheet] = null;
            return 1;
        }
        must(n <= 40, -1);
        must(n >= 0, -14);
        sheets[sheet] = sort == 0 ? new byte[n] : sort == 1 ? new short[n] : sort == 2 ? new int[n] : new long[n];
        return 1;
    }

    private int put(int sheet, int i, int v) {
        range(sheet, 0, 3);
        Object row = sheets[sheet];
        must(row != null, -11);
        must(i >= 0 && i < size(row), -12);
        if (row instanceof byte[]) {
            ((byte[]) row)[i] = (byte) v;
        } else if (row instanceof short[]) {
            ((short[]) row)[i] = (short) v;
        } else if (row instanceof int[]) {
            ((int[]) row)[i] = v;
        } else {
            ((long[]) row)[i] = v;
        }
        return 1;
    }

    private int item(int sheet, int sort, int i) {
        range(sheet, 0, 3);
        range(sort, 0, 3);
        Object row = sheets[sheet];
        must(row != null, -11);
        must(sortOf(row) == sort, -13);
        must(i >= 0 && i < size(row), -12);
        return (int) read(row, i);
    }

    private int shelf(int shelf, int what, int n) {
        range(shelf, 0, 3);
        range(what, 0, 2);
        if (what == 0) {
            now.one(n);
            shelves[shelf] = n;
        } else if (what == 1) {
            range(n, 0, 3);
            shelves[shelf] = sheets[n];
        } else {
            shelves[shelf] = null;
        }
        return 1;
    }

    private Object onShelf(int shelf) {
        Object held = shelves[shelf];
        if (held instanceof Integer) {
            int n = (Integer) held;
            return n < now.people.size() ? now.one(n) : null;
        }
        return held;
    }

    private int taken(int shelf, int as) {
        range(shelf, 0, 3);
        must(as >= 0 && as <= 5 || as >= 10 && as <= 13, -1);
        Object held = onShelf(shelf);
        must(held != null, -11);
        if (as >= 10) {
            must(!(held instanceof Asker) && sortOf(held) == as - 10, -13);
            return size(held);
        }
        must(held instanceof Asker, -13);
        must(new Asker().as(as).getClass().isInstance(held), -13);
        return ((Asker) held).n;
    }

    private int act(int shelf, int act, int x) {
        ran = new ArrayList<>();
        if (shelf < 0 || shelf > 3 || act < 0 || act > 3 || !(onShelf(shelf) instanceof Asker)) {
            return 0;
        }
        Asker p = (Asker) onShelf(shelf);
        try {
            return act == 0 ? p.thinks(ran, x) : act == 1 ? p.asks(ran, x) : act == 2 ? p.parts(ran, x) : p.writes(ran, x);
        } catch (ArithmeticException e) {
            return -15;
        }
    }

    private int many(int what) {
        range(what, 0, 6);
        int[] many = {now.people.size(), 0, 0, 0, rows.size(), tape.length, Math.min(30, ran.size())};
        for (Asker p : now.people) {
            many[1] += p.pages > 0 ? 1 : 0;
            many[2] += p.got > 0 ? 1 : 0;
            many[3] += p.thought >= p.needs(now) ? 1 : 0;
        }
        return many[what];
    }
}
