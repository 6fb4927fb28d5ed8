/** How a minute goes, and promises 8 to 16: what is told of the border. */
public final class MinuteTest {
    private static final Due due = new Due();

    public static void main(String[] args) {
        oneIsLetThrough();
        oneIsFound();
        aTiredGuardFindsLess();
        lullabiesExpireBeforeAGuardBegins();
        guardsWorkByNumbers();
        anEndIsHeardByGuardsWithGreaterNumbersOnly();
        theAlertnessIsNeverUnderZero();
        theAlertnessGrowsWhileNobodyWaits();
        aGuardBeginsNothingInTheMinuteOfAnEnd();
        noiseMakesSearchesLonger();
        whoFallsAsleepIsNotHeardByASearchThatBegins();
        theNextInLineHasTheSmallestNumber();
        due.end("MinuteTest");
    }

    /** What is due: waiting, asleep, sentBack, expired, paid, noise and minute. */
    private static void counts(SleepBorder x, String when, int... want) {
        due.is(when + ": waiting()", want[0], x.waiting());
        due.is(when + ": asleep()", want[1], x.asleep());
        due.is(when + ": sentBack()", want[2], x.sentBack());
        due.is(when + ": expired()", want[3], x.expired());
        due.is(when + ": paid()", want[4], x.paid());
        due.is(when + ": noise()", want[5], x.noise());
        due.is(when + ": minute()", want[6], x.minute());
    }

    private static SleepBorder withGuards(int guards) {
        SleepBorder x = new SleepBorder();
        for (int guard = 0; guard < guards; guard++) {
            x.addGuard();
        }
        return x;
    }

    private static void oneIsLetThrough() {
        SleepBorder x = withGuards(1);
        x.arrive(2, 2, 7, 20);
        due.is("travellers()", 1, x.travellers());
        counts(x, "as one came", 1, 0, 0, 0, 0, 0, 0);
        x.pass(1);
        counts(x, "as the search began", 0, 0, 0, 0, 0, 0, 1);
        due.is("searches(0)", 0, x.searches(0));
        due.is("minutesToGo(0) as the search began", 4, x.minutesToGo(0));
        x.pass(3);
        due.is("stateOf(0) a minute before the end", 1, x.stateOf(0));
        due.is("minutesToGo(0) a minute before the end", 1, x.minutesToGo(0));
        x.pass(1);
        counts(x, "in transit", 0, 0, 0, 0, 0, 7, 5);
        due.is("stateOf(0) in transit", 2, x.stateOf(0));
        due.is("searches(0) behind the end", -1, x.searches(0));
        due.is("minutesToGo(0) behind the end", 0, x.minutesToGo(0));
        x.pass(4);
        counts(x, "in transit, with a minute to go", 0, 0, 0, 0, 0, 7, 9);
        due.is("pass(1)", 1, x.pass(1));
        counts(x, "asleep", 0, 1, 0, 0, 0, 0, 10);
        due.is("travellers() behind it all", 1, x.travellers());
    }

    private static void oneIsFound() {
        SleepBorder x = withGuards(1);
        x.arrive(5, 1, 7, 20);
        x.pass(3);
        due.is("stateOf(0) a minute before the end", 1, x.stateOf(0));
        x.pass(1);
        counts(x, "found", 0, 0, 1, 0, 12, 0, 4);
        due.is("stateOf(0) found", 4, x.stateOf(0));
        due.is("searches(0) behind the end", -1, x.searches(0));
        due.is("alertnessOf(0) behind the end", 8, x.alertnessOf(0));
        x.arrive(9, 0, 0, 20);
        x.pass(3);
        counts(x, "another found", 0, 0, 2, 0, 39, 0, 7);
        due.is("travellers() behind it all", 2, x.travellers());
    }

    private static void aTiredGuardFindsLess() {
        SleepBorder x = withGuards(1);
        x.arrive(0, 0, 0, 60);
        x.arrive(1, 0, 0, 60);
        x.arrive(3, 0, 0, 60);
        x.pass(3);
        due.is("stateOf(0), nothing hidden and 9", 2, x.stateOf(0));
        x.pass(3);
        due.is("stateOf(1), 1 hidden and 8", 2, x.stateOf(1));
        x.pass(3);
        due.is("stateOf(2), 3 hidden and 7", 4, x.stateOf(2));
        due.is("paid()", 9, x.paid());
        due.is("alertnessOf(0)", 6, x.alertnessOf(0));
    }

    private static void lullabiesExpireBeforeAGuardBegins() {
        SleepBorder x = withGuards(1);
        x.arrive(0, 0, 5, 1);
        x.pass(1);
        counts(x, "expired", 0, 0, 1, 1, 0, 0, 1);
        due.is("stateOf(0) expired", 4, x.stateOf(0));
        due.is("searches(0)", -1, x.searches(0));
        x.arrive(0, 0, 5, 2);
        x.pass(1);
        counts(x, "not expired", 0, 0, 1, 1, 0, 0, 2);
        due.is("stateOf(1) not expired", 1, x.stateOf(1));
        due.is("lullabyOf(1)", 1, x.lullabyOf(1));
        x.pass(2);
        counts(x, "no lullaby expires in a search", 0, 0, 1, 1, 0, 5, 4);
    }

    private static void guardsWorkByNumbers() {
        SleepBorder x = withGuards(3);
        x.arrive(0, 0, 0, 60);
        x.arrive(0, 0, 0, 60);
        x.pass(1);
        due.is("searches(0)", 0, x.searches(0));
        due.is("searches(1)", 1, x.searches(1));
        due.is("searches(2)", -1, x.searches(2));
    }

    private static void anEndIsHeardByGuardsWithGreaterNumbersOnly() {
        SleepBorder x = withGuards(2);
        x.arrive(0, 0, 9, 60);
        x.pass(2);
        x.arrive(0, 0, 0, 60);
        x.pass(1);
        due.is("stateOf(0), let through by guard 0", 2, x.stateOf(0));
        due.is("minutesToGo(1), with noise 9", 4, x.minutesToGo(1));

        SleepBorder y = withGuards(2);
        y.arrive(0, 0, 0, 60);
        y.arrive(0, 1, 9, 60);
        y.arrive(0, 0, 0, 60);
        y.pass(4);
        due.is("stateOf(1), let through by guard 1", 2, y.stateOf(1));
        due.is("searches(0)", 2, y.searches(0));
        due.is("minutesToGo(0), without noise", 2, y.minutesToGo(0));
    }

    private static void theAlertnessIsNeverUnderZero() {
        SleepBorder x = withGuards(1);
        for (int i = 0; i < 9; i++) {
            x.arrive(0, 0, 0, 60);
        }
        x.arrive(9, 0, 0, 60);
        x.arrive(0, 0, 0, 60);
        x.pass(24);
        due.is("alertnessOf(0) behind 8", 1, x.alertnessOf(0));
        x.pass(3);
        due.is("alertnessOf(0) behind 9", 0, x.alertnessOf(0));
        x.pass(3);
        due.is("alertnessOf(0) behind 10", 0, x.alertnessOf(0));
        due.is("stateOf(9), 9 hidden and 0", 2, x.stateOf(9));
        due.is("paid()", 0, x.paid());
        x.pass(3);
        due.is("alertnessOf(0) behind 11", 0, x.alertnessOf(0));
        x.pass(1);
        due.is("alertnessOf(0) a minute later", 1, x.alertnessOf(0));
    }

    private static void theAlertnessGrowsWhileNobodyWaits() {
        SleepBorder x = withGuards(1);
        x.arrive(0, 0, 0, 60);
        x.arrive(0, 0, 0, 60);
        int[] want = {9, 9, 8, 8, 8, 7, 8, 9, 9};
        for (int i = 0; i < want.length; i++) {
            x.pass(1);
            due.is("alertnessOf(0) in minute " + (i + 1), want[i], x.alertnessOf(0));
        }
    }

    private static void aGuardBeginsNothingInTheMinuteOfAnEnd() {
        SleepBorder x = withGuards(1);
        x.arrive(0, 0, 0, 60);
        x.arrive(0, 0, 0, 60);
        x.pass(3);
        due.is("searches(0) in the minute of the end", -1, x.searches(0));
        due.is("stateOf(1) in the minute of the end", 0, x.stateOf(1));
        x.pass(1);
        due.is("searches(0) in the next", 1, x.searches(0));
    }

    private static void noiseMakesSearchesLonger() {
        SleepBorder x = withGuards(2);
        x.arrive(0, 0, 9, 60);
        x.arrive(0, 0, 9, 60);
        x.arrive(0, 3, 0, 60);
        x.pass(3);
        due.is("noise()", 18, x.noise());
        x.pass(1);
        due.is("minutesToGo(0)", 9, x.minutesToGo(0));
        x.pass(4);
        due.is("noise() later", 0, x.noise());
        due.is("minutesToGo(0), by the noise as it began", 5, x.minutesToGo(0));
    }

    private static void whoFallsAsleepIsNotHeardByASearchThatBegins() {
        for (int gone = 6; gone <= 7; gone++) {
            SleepBorder x = withGuards(1);
            x.arrive(0, 0, 8, 60);
            x.pass(gone);
            due.is("noise() behind " + gone, 8, x.noise());
            x.arrive(0, 0, 0, 60);
            x.pass(1);
            due.is("minutesToGo(0) behind " + gone, gone == 6 ? 4 : 2, x.minutesToGo(0));
        }
    }

    private static void theNextInLineHasTheSmallestNumber() {
        SleepBorder x = withGuards(1);
        x.arrive(0, 9, 0, 60);
        x.arrive(0, 0, 0, 2);
        x.arrive(0, 0, 0, 5);
        due.is("nextInLine() at first", 0, x.nextInLine());
        x.pass(1);
        due.is("nextInLine() as 0 is searched", 1, x.nextInLine());
        x.pass(1);
        due.is("nextInLine() as 1 is sent back", 2, x.nextInLine());
        x.pass(3);
        due.is("nextInLine() as nobody waits", -1, x.nextInLine());
    }
}
