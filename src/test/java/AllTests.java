/** Runs every test of the project; ends with exit code 1 if one fails. */
public final class AllTests {
    private AllTests() { }

    public static void main(String[] args) {
        PeopleTest.run();
        TapeTest.run();
        TriedTest.run();
        RowsAndThingsTest.run();
        RangesTest.run();
        OrderTest.run();
        PeopleBoundsTest.run();
        TriedBoundsTest.run();
        TapeBoundsTest.run();
        ThingsBoundsTest.run();
        ModelTest.run();
        ReadmeTest.run();
        LanguageTest.run();
        System.out.println(Check.passed + " passed, " + Check.failed + " failed");
        if (Check.failed != 0) {
            System.exit(1);
        }
    }
}
