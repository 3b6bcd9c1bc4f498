/** The calls of the class by their names. */
final class Face {
    private Face() { }

    static long call(BlankRations x, String name, long... v) {
        int[] a = new int[8];
        for (int i = 0; i < v.length; i++) {
            a[i] = (int) v[i];
        }
        switch (name) {
            case "feed": return x.feed(v[0], a[1]);
            case "post": return x.post();
            case "set": return x.set(a[0], a[1]);
            case "lawOf": return x.lawOf(a[0]);
            case "person": return x.person(a[0], a[1], a[2], a[3]);
            case "of": return x.of(a[0], a[1]);
            case "does": return x.does(a[0], a[1]);
            case "mind": return x.mind(a[0], a[1], a[2]);
            case "thought": return x.thought(a[0], a[1]);
            case "own": return x.own(a[0], a[1]);
            case "give": return x.give(a[0], a[1]);
            case "weeks": return x.weeks(a[0]);
            case "seed": return x.seed(a[0]);
            case "week": return x.week();
            case "poor": return x.poor(a[0]);
            case "state": return x.state(a[0]);
            case "words": return x.words(a[0]);
            case "gets": return x.gets(a[0]);
            case "idle": return x.idle();
            case "vanFor": return x.vanFor(a[0], a[1]);
            case "kindFor": return x.kindFor(a[0], a[1]);
            case "thoughtFor": return x.thoughtFor(a[0], a[1]);
            case "needed": return x.needed(a[0]);
            case "fewest": return x.fewest(a[0], a[1]);
            case "packed": return x.packed(a[0]);
            case "fits": return x.fits(a[0], a[1], a[2]);
            case "odds": return x.odds(a[0], a[1], a[2]);
            case "hope": return x.hope(a[0], a[1]);
            case "prove": return x.prove(a[0], a[1]);
            case "row": return x.row(a[0], a[1]);
            case "alterRow": return x.alterRow(a[0], a[1], a[2]);
            case "judge": return x.judge(a[0]);
            case "minds": return x.minds(a[0], a[1], a[2], a[3]);
            case "sheet": return x.sheet(a[0], a[1], a[2]);
            case "put": return x.put(a[0], a[1], a[2]);
            case "item": return x.item(a[0], a[1], a[2]);
            case "shelf": return x.shelf(a[0], a[1], a[2]);
            case "taken": return x.taken(a[0], a[1]);
            case "act": return x.act(a[0], a[1], a[2]);
            case "trace": return x.trace(a[0]);
            case "many": return x.many(a[0]);
            case "keep": return x.keep();
            case "again": return x.again();
            default: throw new IllegalArgumentException(name);
        }
    }
}
