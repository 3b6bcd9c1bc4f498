/** Objects in which everything holds something, and all that can be asked of one: for calls that change nothing. */
final class Whole {
    private static final int[] TAKEN_AS = {0, 1, 2, 3, 4, 5, 10, 11, 12, 13};

    private final BlankRations x;
    private final StringBuilder told = new StringBuilder();

    private Whole(BlankRations x) {
        this.x = x;
    }

    /** Six of PEOPLE, ROWS, SHEETS, SHELVES, a TRACE, a TAPE, and another post office that is kept. */
    static BlankRations rich() {
        BlankRations x = new BlankRations();
        x.person(0, 20, 3, 2);
        x.person(4, 30, 6, 5);
        x.set(1, 5);
        x.seed(31);
        x.weeks(2);
        x.keep();
        x.set(0, 4);
        x.set(2, 2);
        x.set(3, 30);
        x.person(1, 18, 7, 1);
        x.person(2, 41, 1, 0);
        x.person(3, 9, 8, 99);
        x.person(5, 2, 0, 3);
        x.weeks(1);
        x.week();
        x.own(3, 0);
        x.own(4, 99);
        things(x);
        TapeTest.feed(x, "rub 8;boy thought 7 pages 2;");
        return x;
    }

    private static void things(BlankRations x) {
        x.prove(1, 4);
        x.alterRow(2, 1, 55);
        x.sheet(0, 0, 5);
        x.sheet(1, 1, 4);
        x.sheet(2, 3, 3);
        for (int i = 0; i < 3; i++) {
            x.put(0, i, 20 * i + 3);
            x.put(1, i, -3000 * i);
            x.put(2, i, 1 << 20 + i);
        }
        x.shelf(0, 0, 1);
        x.shelf(1, 1, 0);
        x.shelf(2, 0, 5);
        x.act(0, 3, 6);
    }

    /** A rich one with eight of PEOPLE and 200 bytes on THE TAPE. */
    static BlankRations full() {
        BlankRations x = rich();
        x.person(2, 5, 5, 5);
        x.person(0, 6, 6, 6);
        for (int i = 0; i < 21; i++) {
            x.feed(0x2020202020202020L, 8);
        }
        x.feed(0x20202020L, 4);
        return x;
    }

    /** All that can be asked of it; it is used up by that. */
    static String all(BlankRations x) {
        Whole whole = new Whole(x);
        for (int what = 0; what <= 6; what++) {
            whole.tell(x.many(what));
        }
        whole.tellOffice();
        whole.tellThings();
        whole.tell(x.again());
        whole.tellOffice();
        whole.tell(x.post());
        whole.tell(x.many(5));
        whole.tell(x.lawOf(2));
        for (int what = 0; what < 4; what++) {
            whole.tell(x.of(0, what));
        }
        return whole.told.toString();
    }

    private void tell(long answer) {
        told.append(answer).append(' ');
    }

    private void tellOffice() {
        for (int law = 0; law < 4; law++) {
            tell(x.lawOf(law));
        }
        for (int what = 0; what < 6; what++) {
            tell(x.state(what));
        }
        for (int person = 0; person < 8; person++) {
            for (int what = 0; what < 6; what++) {
                tell(x.of(person, what));
            }
        }
        int z = x.seed(0);
        x.seed(z);
        tell(z);
    }

    private void tellThings() {
        for (int i = 0; i < 6; i++) {
            for (int what = 0; what < 3; what++) {
                tell(x.row(i, what));
            }
        }
        for (int i = 0; i < 12; i++) {
            tell(x.trace(i));
        }
        for (int place = 0; place < 4; place++) {
            for (int sort = 0; sort < 4; sort++) {
                for (int i = 0; i < 6; i++) {
                    tell(x.item(place, sort, i));
                }
            }
            for (int as : TAKEN_AS) {
                tell(x.taken(place, as));
            }
        }
    }
}
