/** Promises 17 to 21: stateOf, hiddenOf, lullabyOf, placeInLine and searchTime. */
public final class TravellersTest {
    /** A question about a traveller. */
    private interface Question {
        int answer(SleepBorder x, int traveller);
    }

    private static final Due due = new Due();

    public static void main(String[] args) {
        due.sentence("17: Returns 0 if this one waits", () -> stateIs(Borders.WAITING, 0));
        due.sentence("17: 1 if searched", () -> stateIs(Borders.SEARCHED, 1));
        due.sentence("17: 2 in transit", () -> stateIs(Borders.IN_TRANSIT, 2));
        due.sentence("17: 3 asleep", () -> stateIs(Borders.ASLEEP, 3));
        due.sentence("17: 4 sent back, found", () -> stateIs(Borders.FOUND, 4));
        due.sentence("17: 4 sent back, expired", () -> stateIs(Borders.EXPIRED, 4));
        due.sentence("17: Throws IndexOutOfBoundsException if there is no such traveller",
            () -> refusesNoSuchTraveller(SleepBorder::stateOf));
        due.sentence("18: Returns how many dreams are hidden", TravellersTest::hiddenOf);
        due.sentence("18: at least 0", TravellersTest::hiddenOfOneWhoDeclaresTooMany);
        due.sentence("18: Throws IndexOutOfBoundsException if there is no such traveller",
            () -> refusesNoSuchTraveller(SleepBorder::hiddenOf));
        due.sentence("19: Returns how many minutes of the lullaby are left", TravellersTest::lullabyOfOneWhoWaits);
        due.sentence("19: as many as were as the search of this one began, if it has begun",
            TravellersTest::lullabyOfOneWhoIsSearched);
        due.sentence("19: whatever came of it: in transit and asleep", TravellersTest::lullabyOfOneLetThrough);
        due.sentence("19: whatever came of it: found", TravellersTest::lullabyOfOneFound);
        due.sentence("19: 0 if it expired", TravellersTest::lullabyOfOneExpired);
        due.sentence("19: Throws IndexOutOfBoundsException if there is no such traveller",
            () -> refusesNoSuchTraveller(SleepBorder::lullabyOf));
        due.sentence("20: Returns how many who wait are ahead of this one", TravellersTest::placeInLine);
        due.sentence("20: none to 23 are ahead", TravellersTest::placeInLineFromFirstToLast);
        due.sentence("20: by numbers", TravellersTest::placeInLineGoesByNumbers);
        due.sentence("20: -1 if this one does not wait", TravellersTest::placeInLineOfOneWhoDoesNotWait);
        due.sentence("20: Throws IndexOutOfBoundsException if there is no such traveller",
            () -> refusesNoSuchTraveller(SleepBorder::placeInLine));
        due.sentence("21: Returns how many minutes a search would take", TravellersTest::searchTime);
        due.sentence("21: if it began now: by the noise of now", TravellersTest::searchTimeByTheNoiseOfNow);
        due.sentence("21: of one who waits no more", TravellersTest::searchTimeInEveryState);
        due.sentence("21: Throws IndexOutOfBoundsException if there is no such traveller",
            () -> refusesNoSuchTraveller(SleepBorder::searchTime));
        due.end("TravellersTest");
    }

    private static void refusesNoSuchTraveller(Question question) {
        SleepBorder x = Borders.withGuards(1);
        for (int came = 0; came <= 24; came += 6) {
            for (int wrong : Borders.notOf(came)) {
                due.refuses(wrong + " of " + came, Borders.NO_SUCH, () -> question.answer(x, wrong));
            }
            Borders.plainOnes(x, came < 24 ? 6 : 0);
        }
        due.is("0 of 24 is answered", true, question.answer(x, 0) >= 0);
        due.is("23 of 24 is answered", true, question.answer(x, 23) >= 0);
    }

    private static void stateIs(int state, int want) {
        SleepBorder x = Borders.firstIn(state);
        due.is("stateOf(0)", want, x.stateOf(0));
        x.arrive(0, 0, 0, 60);
        due.is("stateOf(0) beside another", want, x.stateOf(0));
        due.is("stateOf(1)", 0, x.stateOf(1));
    }

    private static void hiddenOf() {
        SleepBorder x = Borders.withGuards(1);
        x.arrive(9, 0, 0, 60);
        x.arrive(5, 5, 0, 60);
        x.arrive(7, 6, 0, 1);
        x.arrive(8, 2, 0, 60);
        int[] hidden = {9, 0, 1, 6};
        for (int hour = 0; hour < 3; hour++) {
            for (int traveller = 0; traveller < 4; traveller++) {
                due.is("hiddenOf(" + traveller + ") behind " + hour, hidden[traveller], x.hiddenOf(traveller));
            }
            x.pass(hour == 0 ? 1 : 60);
        }
    }

    private static void hiddenOfOneWhoDeclaresTooMany() {
        for (int dreams = 0; dreams < 9; dreams++) {
            SleepBorder x = new SleepBorder();
            x.arrive(dreams, dreams + 1, 0, 60);
            x.arrive(dreams, 9, 0, 60);
            due.is("hiddenOf(0), who declares one too many", 0, x.hiddenOf(0));
            due.is("hiddenOf(1), who declares 9", 0, x.hiddenOf(1));
        }
    }

    private static void lullabyOfOneWhoWaits() {
        SleepBorder x = new SleepBorder();
        x.arrive(0, 0, 0, 60);
        x.arrive(0, 0, 0, 1);
        due.is("lullabyOf(0) at first", 60, x.lullabyOf(0));
        due.is("lullabyOf(1) at first", 1, x.lullabyOf(1));
        x.pass(59);
        due.is("lullabyOf(0) in the last minute", 1, x.lullabyOf(0));
    }

    private static void lullabyOfOneWhoIsSearched() {
        SleepBorder x = Borders.withGuards(1);
        x.arrive(0, 0, 0, 60);
        x.arrive(0, 9, 0, 60);
        x.pass(4);
        for (int minute = 4; minute < 15; minute++) {
            due.is("stateOf(1)", 1, x.stateOf(1));
            due.is("lullabyOf(1) at " + minute, 56, x.lullabyOf(1));
            x.pass(1);
        }
    }

    private static void lullabyOfOneLetThrough() {
        SleepBorder x = Borders.withGuards(1);
        x.arrive(0, 0, 0, 10);
        x.pass(3);
        due.is("stateOf(0)", 2, x.stateOf(0));
        due.is("lullabyOf(0) in transit", 9, x.lullabyOf(0));
        x.pass(4);
        due.is("lullabyOf(0) at the end of the transit", 9, x.lullabyOf(0));
        x.pass(1);
        due.is("stateOf(0)", 3, x.stateOf(0));
        due.is("lullabyOf(0) asleep", 9, x.lullabyOf(0));
        x.pass(60);
        due.is("lullabyOf(0) long asleep", 9, x.lullabyOf(0));
    }

    private static void lullabyOfOneFound() {
        SleepBorder x = Borders.withGuards(1);
        x.arrive(9, 0, 0, 10);
        x.pass(3);
        due.is("stateOf(0)", 4, x.stateOf(0));
        due.is("lullabyOf(0) found", 9, x.lullabyOf(0));
        x.pass(60);
        due.is("lullabyOf(0) long found", 9, x.lullabyOf(0));
    }

    private static void lullabyOfOneExpired() {
        SleepBorder x = new SleepBorder();
        x.arrive(9, 0, 0, 1);
        x.arrive(9, 0, 0, 60);
        x.pass(1);
        due.is("lullabyOf(0) expired", 0, x.lullabyOf(0));
        x.pass(60);
        due.is("lullabyOf(0) long expired", 0, x.lullabyOf(0));
        due.is("lullabyOf(1) expired", 0, x.lullabyOf(1));
    }

    private static void placeInLine() {
        SleepBorder x = Borders.withGuards(1);
        x.arrive(0, 9, 0, 60);
        x.arrive(0, 0, 0, 60);
        x.arrive(0, 0, 0, 2);
        x.arrive(0, 0, 0, 60);
        int[][] places = {{0, 1, 2, 3}, {-1, 0, 1, 2}, {-1, 0, -1, 1}};
        for (int minute = 0; minute < places.length; minute++) {
            for (int traveller = 0; traveller < 4; traveller++) {
                due.is("placeInLine(" + traveller + ") at " + minute,
                    places[minute][traveller], x.placeInLine(traveller));
            }
            x.pass(1);
        }
        SleepBorder busy = Borders.busy();
        due.is("placeInLine(6), behind six who do not wait", 0, busy.placeInLine(6));
        due.is("placeInLine(7)", 1, busy.placeInLine(7));
    }

    private static void placeInLineFromFirstToLast() {
        SleepBorder x = new SleepBorder();
        Borders.plainOnes(x, 24);
        for (int traveller = 0; traveller < 24; traveller++) {
            due.is("placeInLine(" + traveller + ")", traveller, x.placeInLine(traveller));
        }
    }

    private static void placeInLineGoesByNumbers() {
        SleepBorder x = new SleepBorder();
        x.arrive(0, 0, 0, 60);
        x.arrive(9, 9, 9, 1);
        x.sing(0, 2);
        x.sing(1, 60);
        due.is("placeInLine(0), with the shorter lullaby", 0, x.placeInLine(0));
        due.is("placeInLine(1)", 1, x.placeInLine(1));
        x.sing(0, 60);
        x.sing(1, 2);
        due.is("placeInLine(0), with the longer lullaby", 0, x.placeInLine(0));
        due.is("placeInLine(1)", 1, x.placeInLine(1));
    }

    private static void placeInLineOfOneWhoDoesNotWait() {
        due.is("placeInLine(0) of one who waits", 0, Borders.firstIn(Borders.WAITING).placeInLine(0));
        for (int state = Borders.SEARCHED; state <= Borders.EXPIRED; state++) {
            SleepBorder x = Borders.firstIn(state);
            due.is("placeInLine(0) in state " + state, -1, x.placeInLine(0));
            x.arrive(0, 0, 0, 60);
            due.is("placeInLine(0) beside one who waits", -1, x.placeInLine(0));
            due.is("placeInLine(1)", 0, x.placeInLine(1));
        }
    }

    private static void searchTime() {
        SleepBorder x = new SleepBorder();
        for (int declared = 0; declared <= 9; declared++) {
            x.arrive(9 - declared, declared, 9, 60);
            due.is("searchTime(" + declared + ")", 2 + declared, x.searchTime(declared));
        }
    }

    private static void searchTimeByTheNoiseOfNow() {
        int[] quarters = {0, 0, 0, 0, 1, 1, 1, 1, 2, 2};
        for (int snore = 0; snore <= 9; snore++) {
            SleepBorder x = Borders.withGuards(1);
            x.arrive(0, 0, snore, 60);
            due.is("searchTime(0) without noise", 2, x.searchTime(0));
            x.pass(3);
            x.arrive(0, 9, 0, 60);
            due.is("searchTime(1) with noise " + snore, 11 + quarters[snore], x.searchTime(1));
            x.pass(5);
            due.is("searchTime(1) as the noise is gone", 11, x.searchTime(1));
        }
    }

    private static void searchTimeInEveryState() {
        // The one in transit hears the own snore of 6.
        int[] minutes = {9, 9, 10, 9, 9, 9};
        for (int state = 0; state < minutes.length; state++) {
            due.is("searchTime(0) in state " + state, minutes[state], Borders.firstIn(state).searchTime(0));
        }
    }
}
