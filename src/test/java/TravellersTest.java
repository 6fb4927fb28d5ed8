/** Promises 17 to 21: stateOf, hiddenOf, lullabyOf, placeInLine and searchTime. */
public final class TravellersTest {
    private static final Due due = new Due();

    public static void main(String[] args) {
        stateOf();
        hiddenOf();
        lullabyOf();
        placeInLine();
        searchTime();
        searchTimeCutsTheNoise();
        noSuchTraveller();
        due.end("TravellersTest");
    }

    private static void stateOf() {
        SleepBorder x = new SleepBorder();
        x.addGuard();
        x.arrive(0, 0, 0, 60);
        x.arrive(2, 0, 0, 60);
        x.arrive(0, 0, 0, 1);
        int[] first = {0, 1, 1, 2, 2, 2, 2, 2, 3};
        int[] second = {0, 0, 0, 0, 1, 1, 4, 4, 4};
        int[] third = {0, 4, 4, 4, 4, 4, 4, 4, 4};
        for (int minute = 0; minute < first.length; minute++) {
            due.is("stateOf(0) at " + minute, first[minute], x.stateOf(0));
            due.is("stateOf(1) at " + minute, second[minute], x.stateOf(1));
            due.is("stateOf(2) at " + minute, third[minute], x.stateOf(2));
            x.pass(1);
        }
    }

    private static void hiddenOf() {
        SleepBorder x = new SleepBorder();
        x.addGuard();
        x.arrive(9, 0, 0, 60);
        x.arrive(5, 5, 0, 60);
        x.arrive(2, 9, 0, 60);
        x.arrive(7, 6, 0, 1);
        int[] want = {9, 0, 0, 1};
        for (int time = 0; time < 3; time++) {
            for (int traveller = 0; traveller < 4; traveller++) {
                due.is("hiddenOf(" + traveller + ")", want[traveller], x.hiddenOf(traveller));
            }
            x.pass(30);
        }
    }

    private static void lullabyOf() {
        SleepBorder x = new SleepBorder();
        x.addGuard();
        x.arrive(0, 0, 0, 10);
        x.arrive(9, 0, 0, 10);
        x.arrive(0, 0, 0, 6);
        due.is("lullabyOf(0) at first", 10, x.lullabyOf(0));
        x.pass(3);
        due.is("lullabyOf(0), as it was as the search began", 9, x.lullabyOf(0));
        due.is("lullabyOf(1) waiting", 7, x.lullabyOf(1));
        due.is("lullabyOf(2) waiting", 3, x.lullabyOf(2));
        x.pass(3);
        due.is("stateOf(2) expired", 4, x.stateOf(2));
        due.is("lullabyOf(2) expired", 0, x.lullabyOf(2));
        x.pass(10);
        due.is("stateOf(0) asleep", 3, x.stateOf(0));
        due.is("lullabyOf(0) asleep", 9, x.lullabyOf(0));
        due.is("stateOf(1) found", 4, x.stateOf(1));
        due.is("lullabyOf(1) found", 6, x.lullabyOf(1));
        due.is("lullabyOf(2) long expired", 0, x.lullabyOf(2));
    }

    private static void placeInLine() {
        SleepBorder x = new SleepBorder();
        x.addGuard();
        x.arrive(0, 9, 0, 60);
        x.arrive(0, 0, 0, 60);
        x.arrive(0, 0, 0, 2);
        x.arrive(0, 0, 0, 60);
        int[][] want = {{0, 1, 2, 3}, {-1, 0, 1, 2}, {-1, 0, -1, 1}};
        for (int minute = 0; minute < want.length; minute++) {
            for (int traveller = 0; traveller < 4; traveller++) {
                due.is("placeInLine(" + traveller + ") at " + minute,
                    want[minute][traveller], x.placeInLine(traveller));
            }
            x.pass(1);
        }
        x.pass(10);
        due.is("stateOf(0) in transit", 2, x.stateOf(0));
        due.is("placeInLine(0) in transit", -1, x.placeInLine(0));
        x.pass(5);
        due.is("stateOf(0) asleep", 3, x.stateOf(0));
        due.is("placeInLine(0) asleep", -1, x.placeInLine(0));
    }

    private static void searchTime() {
        SleepBorder x = new SleepBorder();
        x.addGuard();
        x.arrive(9, 9, 9, 60);
        x.arrive(9, 0, 0, 1);
        due.is("searchTime(0) waiting", 11, x.searchTime(0));
        due.is("searchTime(1) waiting", 2, x.searchTime(1));
        x.pass(1);
        due.is("searchTime(0) searched", 11, x.searchTime(0));
        due.is("searchTime(1) sent back", 2, x.searchTime(1));
        x.pass(11);
        due.is("searchTime(0) in transit", 13, x.searchTime(0));
        due.is("searchTime(1) with noise", 4, x.searchTime(1));
        x.pass(5);
        due.is("searchTime(0) asleep", 11, x.searchTime(0));
    }

    private static void searchTimeCutsTheNoise() {
        for (int snore = 0; snore <= 9; snore++) {
            SleepBorder x = new SleepBorder();
            x.addGuard();
            x.arrive(0, 0, snore, 60);
            x.pass(3);
            due.is("noise()", snore, x.noise());
            due.is("searchTime(0) with noise " + snore, 2 + snore / 4, x.searchTime(0));
        }
    }

    private static void noSuchTraveller() {
        SleepBorder x = new SleepBorder();
        Class<IndexOutOfBoundsException> noSuch = IndexOutOfBoundsException.class;
        for (int came = 0; came <= 24; came += 12) {
            int[] wrong = {-1, came, 24, 25, Integer.MIN_VALUE, Integer.MAX_VALUE};
            for (int traveller : wrong) {
                due.refuses("stateOf(" + traveller + ")", noSuch, () -> x.stateOf(traveller));
                due.refuses("hiddenOf(" + traveller + ")", noSuch, () -> x.hiddenOf(traveller));
                due.refuses("lullabyOf(" + traveller + ")", noSuch, () -> x.lullabyOf(traveller));
                due.refuses("placeInLine(" + traveller + ")", noSuch, () -> x.placeInLine(traveller));
                due.refuses("searchTime(" + traveller + ")", noSuch, () -> x.searchTime(traveller));
            }
            for (int i = 0; i < 12 && came < 24; i++) {
                x.arrive(0, 0, 0, 60);
            }
        }
        due.is("placeInLine(23)", 23, x.placeInLine(23));
    }
}
