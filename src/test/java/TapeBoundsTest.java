/** The boundary cases that the document names of THE TAPE, its TEXT and its FAULTS: a method for each sentence. */
final class TapeBoundsTest {
    private static final int BAD = BlankRations.BAD, FULL = BlankRations.FULL;
    private static final long BLANKS = 0x2020202020202020L;
    private static final String[] KINDS = {"asker", "novelist", "widow", "poet", "sister", "boy"};
    private static final String[] LAWS = {"van", "lines", "rub", "slip"};
    private static final String[] OPTIONS = {"thought", "hand", "pages"};
    private static final int[] LAW_MOST = {9, 9, 9, 99};
    private static final int[] OPTION_MOST = {99, 9, 99};

    private TapeBoundsTest() { }

    static void run() {
        twoHundredAtMost();
        oneToEight();
        lowestFirst();
        postUsesItUp();
        emptyTexts();
        withoutOptions();
        optionsInTheirOrder();
        numbersAtTheEnds();
        oneToThreeDigits();
        asLongAsTheyGo();
        blanksElsewhere();
        bytesBesideTheirs();
        theNinth();
        placesFromTheFirstToTheLast();
        theEndIfMoreMustCome();
        theFirstFault();
        byItAlone();
        zStays();
        aFaultChangesNothing();
        noRowsThen();
    }

    private static void due(String call, long got, long want) {
        Check.due(call, got, want);
    }

    /** The FAULT of a text, or -1. */
    private static int faultOf(String text) {
        int answer = TapeTest.post(new BlankRations(), text);
        return answer <= -100 ? -100 - answer : -1;
    }

    private static void dueFault(String text, int want) {
        due("FAULT of \"" + text + "\"", faultOf(text), want);
    }

    private static BlankRations withBlanks(int bytes) {
        BlankRations x = new BlankRations();
        for (int left = bytes; left > 0; left -= 8) {
            x.feed(BLANKS, Math.min(8, left));
        }
        return x;
    }

    /** 200 at most. FULL: more than 200; nothing of it comes then. */
    private static void twoHundredAtMost() {
        for (int n = 1; n <= 8; n++) {
            BlankRations x = withBlanks(200 - n);
            due("there are", x.many(5), 200 - n);
            due("up to 200 by " + n, x.feed(BLANKS, n), 200);
            due("no more", x.feed(BLANKS, 1), FULL);
            BlankRations y = withBlanks(201 - n);
            due("201 by " + n, y.feed(BLANKS, n), FULL);
            due("nothing came", y.many(5), 201 - n);
            if (n > 1) {
                due("but less does", y.feed(BLANKS, n - 1), 200);
            }
        }
        BlankRations x = withBlanks(200);
        due("blanks alone", x.post(), 0);
        due("there is room again", x.feed(BLANKS, 8), 8);
    }

    /** n bytes (1 to 8): how many it has. BAD. */
    private static void oneToEight() {
        BlankRations x = new BlankRations();
        int has = 0;
        for (int n = 1; n <= 8; n++) {
            has += n;
            due("feed " + n, x.feed(BLANKS, n), has);
        }
        int[] bad = {0, -1, 9, Integer.MIN_VALUE, Integer.MAX_VALUE};
        for (int n : bad) {
            due("feed " + n, x.feed(BLANKS, n), BAD);
            due("nothing came", x.many(5), has);
        }
    }

    /** The lowest of eight first: "boy;" and eight bytes at their ends. */
    private static void lowestFirst() {
        long boys = 0x3b796f623b796f62L;
        for (int n = 1; n <= 8; n++) {
            BlankRations x = new BlankRations();
            x.feed(boys, n);
            due(n + " bytes of boy;boy;", x.post(), n == 4 ? 1 : n == 8 ? 2 : n < 4 ? (n == 3 ? -103 : -100) : n == 7 ? -107 : -104);
        }
        BlankRations x = new BlankRations();
        x.feed(Long.MIN_VALUE, 8);
        due("bytes of 0 first", x.post(), -100);
        x.feed(Long.MIN_VALUE | 0x20202020202020L, 8);
        due("the last one is 128", x.post(), -107);
        x.feed(Long.MIN_VALUE | 0x20202020202020L, 7);
        due("it isn't taken", x.post(), 0);
        x.feed(-1L, 1);
        due("255", x.post(), -100);
    }

    /** post() uses it up, whether there is a FAULT or not. */
    private static void postUsesItUp() {
        BlankRations x = new BlankRations();
        TapeTest.feed(x, "boy;");
        due("one", x.post(), 1);
        due("used up", x.many(5), 0);
        due("nothing is told then", x.post(), 0);
        TapeTest.feed(x, "boy;boy");
        due("a fault", x.post(), -107);
        due("used up", x.many(5), 0);
        due("nobody", x.many(0), 0);
        TapeTest.feed(x, ";");
        due("this alone is told", x.post(), -100);
    }

    /** { .. }: none of them, too. */
    private static void emptyTexts() {
        dueFault("", -1);
        dueFault(" ", -1);
        dueFault(" ".repeat(200), -1);
        BlankRations x = Whole.rich();
        x.post();
        due("nobody", x.post(), 0);
        int[] first = {3, 2, 1, 20};
        for (int law = 0; law < 4; law++) {
            due("law " + law + " as at first", x.lawOf(law), first[law]);
        }
        for (int what = 0; what < 6; what++) {
            due("state " + what + " as at first", x.state(what), 0);
        }
    }

    /** KIND: one more; THOUGHT, HAND, PAGES (0 without). */
    private static void withoutOptions() {
        for (int kind = 0; kind < 6; kind++) {
            for (int set = 0; set < 8; set++) {
                StringBuilder text = new StringBuilder(KINDS[kind]);
                for (int option = 0; option < 3; option++) {
                    if ((set >> option & 1) == 1) {
                        text.append(' ').append(OPTIONS[option]).append(' ').append(option + 4);
                    }
                }
                BlankRations x = new BlankRations();
                due(text + ";", TapeTest.post(x, text + ";"), 1);
                due("kind", x.of(0, 0), kind);
                for (int option = 0; option < 3; option++) {
                    due(text + ": " + OPTIONS[option], x.of(0, 1 + option), (set >> option & 1) == 1 ? option + 4 : 0);
                }
                due("got", x.of(0, 4), 0);
                due("said", x.of(0, 5), 0);
            }
        }
    }

    /** [ thought N ] [ hand N ] [ pages N ]: each once at most, in this order. */
    private static void optionsInTheirOrder() {
        for (int a = 0; a < 3; a++) {
            for (int b = 0; b < 3; b++) {
                String first = "poet " + OPTIONS[a] + " 1 ";
                dueFault(first + OPTIONS[b] + " 2;", b > a ? -1 : first.length());
            }
        }
        dueFault("poet thought 1 hand 2 pages 3 pages 4;", 30);
        dueFault("van 3 thought 1;", 6);
        for (String option : OPTIONS) {
            dueFault(option + " 1;", 0);
            dueFault("boy; " + option + " 1;", 5);
        }
    }

    /** A NUMBER out of range. */
    private static void numbersAtTheEnds() {
        for (int law = 0; law < 4; law++) {
            for (int v = 0; v <= 120; v++) {
                BlankRations x = new BlankRations();
                int answer = TapeTest.post(x, LAWS[law] + " " + v + ";");
                boolean is = v <= LAW_MOST[law];
                due(LAWS[law] + " " + v, answer, is ? 0 : -101 - LAWS[law].length());
                due("it is", x.lawOf(law), is ? v : new int[] {3, 2, 1, 20}[law]);
            }
            dueFault(LAWS[law] + " 999;", LAWS[law].length() + 1);
        }
        for (int option = 0; option < 3; option++) {
            for (int v = 0; v <= 120; v++) {
                BlankRations x = new BlankRations();
                int answer = TapeTest.post(x, "boy " + OPTIONS[option] + " " + v + ";");
                boolean is = v <= OPTION_MOST[option];
                due(OPTIONS[option] + " " + v, answer, is ? 1 : -105 - OPTIONS[option].length());
                due("it is", x.of(0, 1 + option), is ? v : BAD);
            }
            dueFault("boy " + OPTIONS[option] + " 999;", OPTIONS[option].length() + 5);
        }
    }

    /** NUMBERS are rows of digits (1 to 3); of more digits: a FAULT, whatever they are. */
    private static void oneToThreeDigits() {
        dueFault("van ;", 4);
        dueFault("van 0;", -1);
        dueFault("van 00;", -1);
        dueFault("van 000;", -1);
        dueFault("van 0000;", 4);
        dueFault("van 009;", -1);
        dueFault("van 0009;", 4);
        dueFault("van 010;", 4);
        dueFault("slip 099;", -1);
        dueFault("slip 100;", 5);
        dueFault("slip 0099;", 5);
        dueFault("slip 4294967296;", 5);
        dueFault("slip 18446744073709551616;", 5);
        dueFault("slip " + "0".repeat(195), 5);
        dueFault("slip " + "9".repeat(195), 5);
        BlankRations x = new BlankRations();
        due("zeros before", TapeTest.post(x, "asker thought 007 hand 09 pages 010;"), 1);
        due("thought", x.of(0, 1), 7);
        due("hand", x.of(0, 2), 9);
        due("pages", x.of(0, 3), 10);
    }

    /** Both as long as they go: a name that is more or less than one is none. */
    private static void asLongAsTheyGo() {
        for (String kind : KINDS) {
            dueFault(kind + ";", -1);
            dueFault(kind + "s;", 0);
            dueFault("a" + kind + ";", 0);
            dueFault(kind.substring(1) + ";", 0);
            dueFault(kind.substring(0, kind.length() - 1) + ";", 0);
            dueFault(kind + kind + ";", 0);
            dueFault(kind + " " + kind + ";", kind.length() + 1);
            dueFault(kind.substring(0, 1) + " " + kind.substring(1) + ";", 0);
        }
        for (String kind : KINDS) {
            everyLetter("", kind, ";");
        }
        for (String law : LAWS) {
            everyLetter("", law, " 1;");
        }
        for (String option : OPTIONS) {
            everyLetter("boy ", option, " 1;");
        }
        for (String law : LAWS) {
            dueFault(law + " 1;", -1);
            dueFault(law + "s 1;", 0);
            dueFault(law.substring(0, 2) + " 1;", 0);
            dueFault(law.substring(1) + " 1;", 0);
        }
        for (String option : OPTIONS) {
            dueFault("boy " + option + " 1;", -1);
            dueFault("boy " + option + "s 1;", 4);
            dueFault("boy " + option.substring(0, 3) + " 1;", 4);
            dueFault("boy " + option.substring(1) + " 1;", 4);
        }
        dueFault("van 1 2;", 6);
        dueFault("van 12;", 4);
    }

    /** A name one of whose letters is the next one of the alphabet, or a great one, is none. */
    private static void everyLetter(String before, String name, String behind) {
        for (int i = 0; i < name.length(); i++) {
            char next = (char) (name.charAt(i) + 1);
            char great = (char) (name.charAt(i) - 32);
            dueFault(before + name.substring(0, i) + next + name.substring(i + 1) + behind, before.length());
            dueFault(before + name.substring(0, i) + great + name.substring(i + 1) + behind, before.length());
        }
    }

    /** Blanks (32) part them, and stand elsewhere as one likes. */
    private static void blanksElsewhere() {
        dueFault("   boy   thought   7   hand   8   pages   9   ;   van   1   ;   ", -1);
        dueFault("boy thought 7 hand 8 pages 9;van 1;", -1);
        dueFault(";  ", 0);
        dueFault("   ;", 3);
        dueFault("boyhand 8;", 0);
        dueFault("boy handpages 8;", 4);
    }

    /** Bytes just beside a to z, 0 to 9, the blank and the semicolon, and those at the ends. */
    private static void bytesBesideTheirs() {
        int[] others = {0, 1, 9, 10, 13, 31, 33, '/', ':', '<', '@', 'A', 'Z', '[', '`', '{', 127, 128, 160, 254, 255};
        for (int other : others) {
            String sign = String.valueOf((char) other);
            dueFault(sign, 0);
            dueFault("van" + sign + " 3;", 3);
            dueFault("van " + sign + "3;", 4);
            dueFault("van 3" + sign + ";", 5);
            dueFault("van 3;" + sign, 6);
            dueFault("boy" + sign + ";", 3);
            dueFault("boy hand 7 " + sign + ";", 11);
        }
        dueFault("a", 0);
        dueFault("z", 0);
        dueFault("0;", 0);
        dueFault("9;", 0);
        dueFault("VAN 3;", 0);
        dueFault("Van 3;", 0);
        dueFault("vaN 3;", 0);
    }

    /** The NAME of a ninth one. */
    private static void theNinth() {
        String eight = "boy;".repeat(8);
        due("eight", TapeTest.post(new BlankRations(), eight), 8);
        for (String kind : KINDS) {
            dueFault(eight + kind + ";", 32);
            dueFault(eight + " " + kind, 33);
            dueFault(eight + kind + " thought 100;", 32);
        }
        for (String law : LAWS) {
            dueFault(eight + law + " 1;", -1);
            dueFault(law + " 1;" + eight + law + " 2;", -1);
        }
        dueFault(eight + "boys;", 32);
        dueFault("boy;".repeat(7) + "boy thought 100;" + "boy;", 40);
        BlankRations x = new BlankRations();
        for (int i = 0; i < 8; i++) {
            x.person(0, 1, 2, 3);
        }
        due("those before count nothing", TapeTest.post(x, eight), 8);
        due("a ninth by person()", x.person(0, 0, 0, 0), FULL);
    }

    /** The place (from 0): up to the last of 200 bytes. */
    private static void placesFromTheFirstToTheLast() {
        for (int place = 0; place < 200; place++) {
            String before = " ".repeat(place);
            dueFault(before + "?", place);
            dueFault(before + "?" + " ".repeat(199 - place), place);
        }
        String laws = "van 1;".repeat(33);
        dueFault(laws + " ;", 199);
        dueFault(laws + "  ", -1);
        dueFault("van 1;".repeat(32) + "asker;  ", -1);
        dueFault("van 1;".repeat(32) + "asker; ?", 199);
        dueFault(";".repeat(200), 0);
        dueFault("a".repeat(200), 0);
        dueFault("1".repeat(200), 0);
    }

    /** Or the end (how many bytes there are), if more must come. */
    private static void theEndIfMoreMustCome() {
        String whole = "boy thought 12 hand 3 pages 45;";
        String[] parts = {"boy", "boy ", "boy thought", "boy thought ", "boy thought 1", "boy thought 12", "boy thought 12 ",
            "boy thought 12 hand", "boy thought 12 hand ", "boy thought 12 hand 3", "boy thought 12 hand 3 pages",
            "boy thought 12 hand 3 pages ", "boy thought 12 hand 3 pages 4", "boy thought 12 hand 3 pages 45"};
        for (String part : parts) {
            Check.holds("it begins so", whole.startsWith(part));
            dueFault(part, part.length());
            dueFault("  " + part + "  ", part.length() + 4);
        }
        for (String law : LAWS) {
            dueFault(law, law.length());
            dueFault(law + " ", law.length() + 1);
            dueFault(law + " 1", law.length() + 2);
            dueFault(law + " 1 ", law.length() + 3);
        }
        dueFault(" ".repeat(197) + "boy", 200);
        dueFault(" ".repeat(196) + "boy ", 200);
        dueFault("van" + " ".repeat(197), 200);
        dueFault("van 1;".repeat(33) + "  ", -1);
    }

    /** The first byte of the first one that can't stand there. */
    private static void theFirstFault() {
        dueFault("van 10; boys; ?", 4);
        dueFault("boy thought 100 hand 10 pages 100", 12);
        dueFault("boy hand 10 thought 1;", 9);
        dueFault("boy hand 0001 ?", 9);
        dueFault("boy ? boys", 4);
        dueFault("van van van", 4);
        dueFault("boy thought hand;", 12);
        dueFault("boy thought hand x;", 12);
        dueFault("boy thought hand 10;", 12);
        dueFault("boy thought pages 3 x;", 12);
        dueFault("boy hand pages 100;", 9);
        dueFault("boy thought hand pages ?", 12);
    }

    /** It is all by it alone (what it doesn't tell is as at first); the latest of several LAWS counts. */
    private static void byItAlone() {
        BlankRations x = Whole.full();
        x.post();
        due("two", TapeTest.post(x, "rub 9;sister pages 99;rub 0;asker;"), 2);
        int[] laws = {3, 2, 0, 20};
        for (int law = 0; law < 4; law++) {
            due("law " + law, x.lawOf(law), laws[law]);
        }
        due("week", x.state(0), 0);
        due("back", x.state(1), 0);
        due("said", x.state(2), 0);
        due("pages", x.state(3), 99);
        due("thought", x.state(4), 0);
        due("no third", x.of(2, 0), BAD);
    }

    /** z stays. */
    private static void zStays() {
        int[] seeds = {1, 0, -1, Integer.MIN_VALUE, Integer.MAX_VALUE};
        for (int seed : seeds) {
            BlankRations x = new BlankRations();
            x.seed(seed);
            x.keep();
            x.seed(seed + 1);
            TapeTest.post(x, "boy;");
            due("z", x.seed(seed), seed + 1);
            TapeTest.post(x, "boy");
            due("z, by a FAULT", x.seed(seed), seed);
        }
    }

    /** Such a call changes nothing (but that THE TAPE is used up by post()): at whatever place the FAULT is. */
    private static void aFaultChangesNothing() {
        String text = "van 1;lines 1;rub 1;slip 1;boy thought 1 hand 1 pages 1;asker;";
        String want = withoutTape(Whole.rich());
        for (int length = 1; length < text.length(); length += 4) {
            BlankRations x = Whole.rich();
            TapeTest.feed(x, "?" + text.substring(0, length));
            due("a FAULT behind the tape's own text", x.post(), -128);
            due("used up", x.many(5), 0);
            Check.holds("a FAULT changes nothing", withoutTape(x).equals(want));
        }
        BlankRations late = Whole.rich();
        TapeTest.feed(late, text + "?");
        due("a late FAULT", late.post(), -128 - text.length());
        Check.holds("a late FAULT changes nothing", withoutTape(late).equals(want));
    }

    /** All of it, THE TAPE being "asker;" alone. */
    private static String withoutTape(BlankRations x) {
        if (x.many(5) > 0) {
            TapeTest.feed(x, "?");
            x.post();
        }
        TapeTest.feed(x, "asker;");
        return Whole.all(x);
    }

    /** There are no ROWS then. */
    private static void noRowsThen() {
        BlankRations x = new BlankRations();
        x.person(0, 0, 0, 0);
        x.prove(0, 10);
        due("no people, no rows", x.post(), 0);
        due("rows", x.many(4), 0);
        due("the first", x.row(0, 0), -9);
        due("the first can't be altered", x.alterRow(0, 0, 1), -9);
        x.person(0, 0, 0, 0);
        due("all is right", x.judge(0), 0);
        x.prove(0, 10);
        TapeTest.post(x, "boy");
        due("rows by a FAULT", x.many(4), 10);
    }
}
