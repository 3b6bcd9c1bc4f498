import java.nio.charset.StandardCharsets;

/** Promises 2 and 3: the tape and its text. */
final class TapeTest {
    private static final int BAD = BlankRations.BAD, FULL = BlankRations.FULL;

    private TapeTest() { }

    static void run() {
        feed();
        texts();
        faults();
        ends();
        numbers();
        nine();
        whatStays();
        nothingIsLeft();
    }

    private static void due(String call, long got, long want) {
        Check.due(call, got, want);
    }

    static void feed(BlankRations x, String text) {
        byte[] bytes = text.getBytes(StandardCharsets.ISO_8859_1);
        for (byte b : bytes) {
            x.feed(b & 255, 1);
        }
    }

    static int post(BlankRations x, String text) {
        feed(x, text);
        return x.post();
    }

    /** The FAULT of a text, told to a new object; or -1 if it has none. */
    private static int faultOf(String text) {
        int answer = post(new BlankRations(), text);
        return answer <= -100 ? -100 - answer : -1;
    }

    private static void feed() {
        BlankRations x = new BlankRations();
        due("2: none", x.feed(0, 0), BAD);
        due("2: nine", x.feed(0, 9), BAD);
        due("2: below", x.feed(0, -1), BAD);
        due("2: no bytes", x.many(5), 0);
        // "van 7;" lowest first, and what stands above it counts nothing
        long van = 'v' | 'a' << 8 | 'n' << 16 | ' ' << 24 | (long) '7' << 32 | (long) ';' << 40 | 99L << 56;
        due("2: six", x.feed(van, 6), 6);
        due("42: bytes", x.many(5), 6);
        due("3: post", x.post(), 0);
        due("3: van", x.lawOf(0), 7);
        due("42: used up", x.many(5), 0);
        for (int i = 1; i <= 24; i++) {
            due("2: eight", x.feed(0x2020202020202020L, 8), i * 8);
        }
        due("2: up to 199", x.feed(0x20202020202020L, 7), 199);
        due("2: two too many", x.feed(0x2020, 2), FULL);
        due("2: BAD goes before FULL", x.feed(0, 9), BAD);
        due("2: 200", x.feed(0x20, 1), 200);
        due("2: one too many", x.feed(0x20, 1), FULL);
        due("2: unchanged", x.many(5), 200);
        due("3: blanks alone", x.post(), 0);
        due("2: anew", x.feed(-1, 8), 8);
        due("3: a byte of 255", x.post(), -100);
    }

    private static void texts() {
        BlankRations x = new BlankRations();
        due("3: an empty tape", x.post(), 0);
        due("3: six", post(x, "  asker ;novelist thought 12;widow hand 3 ; poet pages 4;"
                + "sister thought 99 hand 9 pages 99;boy hand 2 pages 1; van 9;lines 8;rub 7;slip 99;"), 6);
        int[][] want = {{0, 0, 0, 0}, {1, 12, 0, 0}, {2, 0, 3, 0}, {3, 0, 0, 4}, {4, 99, 9, 99}, {5, 0, 2, 1}};
        for (int p = 0; p < 6; p++) {
            for (int what = 0; what < 4; what++) {
                due("3: of(" + p + ", " + what + ")", x.of(p, what), want[p][what]);
            }
            due("3: got", x.of(p, 4), 0);
            due("3: said", x.of(p, 5), 0);
        }
        due("3: van", x.lawOf(0), 9);
        due("3: lines", x.lawOf(1), 8);
        due("3: rub", x.lawOf(2), 7);
        due("3: slip", x.lawOf(3), 99);
        due("3: the latest law", post(x, "van 1;van 2;"), 0);
        due("3: van", x.lawOf(0), 2);
        due("3: slip as at first", x.lawOf(3), 20);
        due("3: letters and digits part each other", post(x, "boy thought5hand6pages7;"), 1);
        due("3: thought", x.of(0, 1), 5);
        due("3: pages", x.of(0, 3), 7);
    }

    private static void faults() {
        due("3: no such name", faultOf("  reader;"), 2);
        due("3: a name goes as long as it goes", faultOf("askers;"), 0);
        due("3: part of a name", faultOf("ask;"), 0);
        due("3: not small letters", faultOf("van 3;Asker;"), 6);
        due("3: a semicolon alone", faultOf(";"), 0);
        due("3: two semicolons", faultOf("asker;;"), 6);
        due("3: a number first", faultOf(" 7;"), 1);
        due("3: an option first", faultOf("thought 7;"), 0);
        due("3: a name for a number", faultOf("van van;"), 4);
        due("3: a semicolon for a number", faultOf("van ;"), 4);
        due("3: an option's semicolon for a number", faultOf("boy hand;"), 8);
        due("3: two numbers", faultOf("van 1 2;"), 6);
        due("3: number behind a kind", faultOf("boy 2;"), 4);
        due("3: not in this order", faultOf("boy hand 2 thought 3;"), 11);
        due("3: not in this order", faultOf("boy pages 2 hand 3;"), 12);
        due("3: twice", faultOf("boy hand 2 hand 3;"), 11);
        due("3: a kind in a kind", faultOf("boy asker;"), 4);
        due("3: law without end", faultOf("van 3 boy;"), 6);
        due("3: another byte", faultOf("van\t3;"), 3);
        due("3: another byte", faultOf("van 3,"), 5);
        due("3: a byte of 0", faultOf("van 3;\0"), 6);
        due("3: a byte of 233", faultOf("van \u00e9;"), 4);
        due("3: signs about the letters", faultOf("`"), 0);
        due("3: signs about the letters", faultOf("{"), 0);
        due("3: signs about the digits", faultOf("van /;"), 4);
        due("3: signs about the digits", faultOf("van :;"), 4);
        due("3: minus", faultOf("van -1;"), 4);
        due("3: the first of two", faultOf("van 10;boy x;"), 4);
    }

    private static void ends() {
        due("3: more must come", faultOf("van"), 3);
        due("3: more must come behind blanks", faultOf("van  "), 5);
        due("3: a semicolon must come", faultOf("van 3"), 5);
        due("3: a semicolon must come", faultOf("asker"), 5);
        due("3: a number must come", faultOf("asker thought"), 13);
        due("3: a semicolon must come", faultOf("asker thought 3"), 15);
        due("3: no name by then", faultOf("va"), 0);
        due("3: out of range at the end", faultOf("van 99"), 4);
        String whole = "rub 1;   ".repeat(21) + "rub 1;";
        due("3: 195 bytes", faultOf(whole + "van 3"), 200);
        BlankRations x = new BlankRations();
        due("3: 200 bytes", post(x, whole + "boy; "), 1);
    }

    private static void numbers() {
        String[] names = {"van", "lines", "rub", "slip", "boy thought", "boy hand", "boy pages"};
        int[] most = {9, 9, 9, 99, 99, 9, 99};
        for (int i = 0; i < names.length; i++) {
            int at = names[i].length() + 1;
            due("3: " + names[i] + " most", faultOf(names[i] + " " + most[i] + ";"), -1);
            due("3: " + names[i] + " above", faultOf(names[i] + " " + (most[i] + 1) + ";"), at);
            due("3: " + names[i] + " 999", faultOf(names[i] + " 999;"), at);
        }
        due("3: three digits", faultOf("van 007;"), -1);
        due("3: four digits", faultOf("van 0007;"), 4);
        due("3: ever so many digits", faultOf("van 00000000000000000000000000000000000000000000000003;"), 4);
        due("3: ever so many digits", faultOf("van 42949672964294967296429496729642949672964294967296;"), 4);
        BlankRations x = new BlankRations();
        due("3: zeros", post(x, "boy thought 023 hand 00 pages 000;"), 1);
        due("3: thought", x.of(0, 1), 23);
    }

    private static void nine() {
        String eight = "boy;boy;boy;boy;boy;boy;boy;boy;";
        due("3: eight", post(new BlankRations(), eight), 8);
        due("3: a ninth", faultOf(eight + " boy;"), 33);
        due("3: a ninth of another kind", faultOf(eight + "asker x"), 32);
        due("3: a law then", faultOf(eight + "van 3;"), -1);
    }

    /** Neither bytes nor people of an earlier text come through to a later one. */
    private static void nothingIsLeft() {
        BlankRations x = new BlankRations();
        x.seed(77);
        due("3: a name", post(x, "boyaaaa1111"), -100);
        due("3: a name ends where the bytes end", post(x, "boy"), -103);
        due("3: so does a number", post(x, "van 3"), -105);
        due("3: z stays", x.seed(1), 77);
        due("3: two", post(x, "asker thought 40 hand 3;asker thought 40 hand 3 pages 9;"), 2);
        x.weeks(3);
        due("3: nobody", post(x, " "), 0);
        for (int what = 0; what < 6; what++) {
            due("3: state(" + what + ")", x.state(what), 0);
        }
        for (int what = 0; what < 4; what++) {
            due("3: many(" + what + ")", x.many(what), 0);
        }
        x.person(0, 0, 0, 0);
        due("6: a new one got none", x.of(0, 4), 0);
        due("6: a new one said nothing", x.of(0, 5), 0);
    }

    private static void whatStays() {
        BlankRations x = new BlankRations();
        x.person(0, 20, 3, 5);
        x.set(1, 7);
        x.seed(77);
        x.keep();
        x.weeks(4);
        x.sheet(0, 0, 6);
        x.shelf(0, 0, 0);
        x.shelf(1, 1, 0);
        x.act(0, 1, 2);
        x.prove(0, 3);
        feed(x, "van 3; boy 4");
        due("3: a fault", x.post(), -111);
        due("3: the tape is used up", x.many(5), 0);
        due("3: one stays", x.many(0), 1);
        due("3: the laws stay", x.lawOf(1), 7);
        due("3: the week stays", x.state(0), 4);
        due("3: the rows stay", x.many(4), 3);
        due("3: no people", post(x, "rub 4;"), 0);
        due("3: no rows", x.many(4), 0);
        due("3: no row", x.row(0, 0), -9);
        due("3: week as at first", x.state(0), 0);
        due("3: back as at first", x.state(1), 0);
        due("3: lines as at first", x.lawOf(1), 2);
        due("3: z stays", x.seed(77), 77);
        due("3: the sheet stays", x.item(0, 0, 5), 0);
        due("3: the row stays on its shelf", x.taken(1, 10), 6);
        due("3: there is no such one", x.taken(0, 0), -11);
        due("3: the trace stays", x.many(6), 2);
        due("3: a new one", post(x, "novelist;"), 1);
        due("38: by its number", x.taken(0, 1), 0);
        due("44: what was kept stays", x.again(), 1);
        due("44: pages", x.of(0, 3), 5);
    }
}
