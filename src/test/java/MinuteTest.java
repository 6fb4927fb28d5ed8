/** How a minute goes, sentence by sentence. */
public final class MinuteTest {
    private static final Due due = new Due();

    public static void main(String[] args) {
        due.sentence("1. Each one in transit has a minute less to go; with none left, this one is asleep",
            MinuteTest::aTransitEnds);
        due.sentence("1. Each one in transit", MinuteTest::allTransitsGoOn);
        due.sentence("1. goes before 3.: who falls asleep is not heard by a search that begins",
            MinuteTest::whoFallsAsleepIsNotHeard);
        due.sentence("2. Each one who waits has a minute less of the lullaby", MinuteTest::lullabiesGrowShorter);
        due.sentence("2. who waits: nobody else", MinuteTest::onlyLullabiesOfThoseWhoWaitGrowShorter);
        due.sentence("2. with none left, it has expired, and this one is sent back",
            MinuteTest::aLullabyExpires);
        due.sentence("2. goes before 3.: a lullaby expires though a guard is free",
            MinuteTest::aLullabyExpiresBeforeASearchBegins);
        due.sentence("2. who was sent back is not searched by another guard",
            MinuteTest::whoExpiredStaysSentBack);
        due.sentence("3. Each guard, by numbers: they begin", MinuteTest::guardsBeginByNumbers);
        due.sentence("3. Each guard, by numbers: an end is heard by those behind",
            MinuteTest::anEndIsHeardByGuardsBehind);
        due.sentence("3. Each guard, by numbers: an end is not heard by those ahead",
            MinuteTest::anEndIsNotHeardByGuardsAhead);
        due.sentence("3. who searches somebody has a minute less to go", MinuteTest::aSearchGoesOn);
        due.sentence("3. With none left, the search ends", MinuteTest::aSearchEnds);
        due.sentence("3. if this guard would find hidden dreams, that one pays 3 for each of them",
            MinuteTest::whoIsFoundPays);
        due.sentence("3. and is sent back", MinuteTest::whoIsFoundIsSentBack);
        due.sentence("3. this guard: with the alertness of this one, as it is before it gets less",
            MinuteTest::theAlertnessOfThisGuardCounts);
        due.sentence("3. otherwise that one is in transit", MinuteTest::whoIsNotFoundIsInTransit);
        due.sentence("3. for 5 minutes", MinuteTest::aTransitTakesFiveMinutes);
        due.sentence("3. The alertness is 1 less then", MinuteTest::theAlertnessFallsAtAnEnd);
        due.sentence("3. The alertness is at least 0", MinuteTest::theAlertnessIsAtLeastZero);
        due.sentence("3. and this guard begins no other search in this minute",
            MinuteTest::noSearchBeginsInTheMinuteOfAnEnd);
        due.sentence("3. Who searches nobody as the minute begins begins to search",
            MinuteTest::aFreeGuardBeginsToSearch);
        due.sentence("3. the one who waits with the smallest number", MinuteTest::theSmallestNumberIsSearchedFirst);
        due.sentence("3. if nobody waits, the alertness is 1 more", MinuteTest::theAlertnessGrowsIfNobodyWaits);
        due.sentence("3. the alertness is more only as nobody waits", MinuteTest::theAlertnessDoesNotGrowAtABegin);
        due.sentence("3. the alertness is more only of who searches nobody as the minute begins",
            MinuteTest::theAlertnessDoesNotGrowInTheMinuteOfAnEnd);
        due.sentence("3. the alertness is at most 9", MinuteTest::theAlertnessIsAtMostNine);
        due.sentence("4. The minute is 1 greater", MinuteTest::theMinuteIsOneGreater);
        due.end("MinuteTest");
    }

    private static void aTransitEnds() {
        SleepBorder x = Borders.withGuards(1);
        x.arrive(0, 0, 0, 60);
        x.pass(3);
        due.is("stateOf(0) as the search ended", 2, x.stateOf(0));
        x.pass(4);
        due.is("stateOf(0) with a minute to go", 2, x.stateOf(0));
        x.pass(1);
        due.is("stateOf(0) with none left", 3, x.stateOf(0));
        x.pass(60);
        due.is("stateOf(0) later", 3, x.stateOf(0));
    }

    private static void allTransitsGoOn() {
        SleepBorder x = Borders.withGuards(3);
        Borders.plainOnes(x, 2);
        x.arrive(0, 1, 0, 60);
        x.pass(7);
        due.is("asleep() with a minute to go", 0, x.asleep());
        x.pass(1);
        due.is("stateOf(0)", 3, x.stateOf(0));
        due.is("stateOf(1)", 3, x.stateOf(1));
        due.is("stateOf(2), let through a minute later", 2, x.stateOf(2));
        x.pass(1);
        due.is("stateOf(2) a minute later", 3, x.stateOf(2));
    }

    private static void whoFallsAsleepIsNotHeard() {
        int[] toGo = {4, 2};
        for (int later = 0; later < 2; later++) {
            SleepBorder x = Borders.withGuards(1);
            x.arrive(0, 0, 8, 60);
            x.pass(6 + later);
            due.is("noise() ahead of minute " + (7 + later), 8, x.noise());
            x.arrive(0, 0, 0, 60);
            x.pass(1);
            due.is("minutesToGo(0) as one sleeps in minute 8", toGo[later], x.minutesToGo(0));
        }
    }

    private static void lullabiesGrowShorter() {
        SleepBorder x = new SleepBorder();
        x.arrive(0, 0, 0, 60);
        x.arrive(9, 0, 0, 30);
        for (int minute = 1; minute < 30; minute++) {
            x.pass(1);
            due.is("lullabyOf(0)", 60 - minute, x.lullabyOf(0));
            due.is("lullabyOf(1)", 30 - minute, x.lullabyOf(1));
        }
    }

    private static void onlyLullabiesOfThoseWhoWaitGrowShorter() {
        SleepBorder x = Borders.withGuards(1);
        x.arrive(0, 9, 0, 2);
        for (int state = 1; state <= 3; state++) {
            x.pass(state == 1 ? 1 : state == 2 ? 11 : 5);
            due.is("stateOf(0)", state, x.stateOf(0));
            due.is("lullabyOf(0) in state " + state, 1, x.lullabyOf(0));
        }
        due.is("expired()", 0, x.expired());
    }

    private static void aLullabyExpires() {
        int[] lullabies = {1, 2, 59, 60};
        for (int minutes : lullabies) {
            SleepBorder x = new SleepBorder();
            x.arrive(9, 0, 9, minutes);
            if (minutes > 1) {
                x.pass(minutes - 1);
            }
            due.is("stateOf(0) with a minute left of " + minutes, 0, x.stateOf(0));
            due.is("expired() with a minute left", 0, x.expired());
            x.pass(1);
            due.is("stateOf(0) with none left of " + minutes, 4, x.stateOf(0));
            due.is("expired() with none left", 1, x.expired());
            due.is("sentBack() with none left", 1, x.sentBack());
            due.is("paid() with none left", 0, x.paid());
            x.pass(60);
            due.is("expired() later", 1, x.expired());
        }
    }

    private static void aLullabyExpiresBeforeASearchBegins() {
        int[] states = {4, 1, 1};
        for (int minutes = 1; minutes <= 3; minutes++) {
            SleepBorder x = Borders.withGuards(1);
            x.arrive(0, 0, 0, minutes);
            x.pass(1);
            due.is("stateOf(0) behind a minute of " + minutes, states[minutes - 1], x.stateOf(0));
        }
        SleepBorder x = Borders.withGuards(1);
        x.arrive(0, 0, 0, 60);
        x.arrive(0, 0, 0, 4);
        x.arrive(0, 0, 0, 5);
        x.pass(4);
        due.is("stateOf(1), expired as the guard is free", 4, x.stateOf(1));
        due.is("stateOf(2), searched with a minute left", 1, x.stateOf(2));
        due.is("lullabyOf(2)", 1, x.lullabyOf(2));
    }

    private static void whoExpiredStaysSentBack() {
        SleepBorder x = Borders.withGuards(1);
        x.arrive(0, 0, 9, 1);
        for (int minute = 1; minute <= 10; minute++) {
            x.pass(1);
            due.is("stateOf(0)", 4, x.stateOf(0));
            due.is("searches(0)", -1, x.searches(0));
            due.is("noise()", 0, x.noise());
        }
        due.is("alertnessOf(0)", 9, x.alertnessOf(0));
    }

    private static void guardsBeginByNumbers() {
        SleepBorder x = Borders.withGuards(4);
        Borders.plainOnes(x, 3);
        x.pass(1);
        int[] searched = {0, 1, 2, -1};
        for (int guard = 0; guard < 4; guard++) {
            due.is("searches(" + guard + ")", searched[guard], x.searches(guard));
        }
    }

    private static void anEndIsHeardByGuardsBehind() {
        SleepBorder x = Borders.withGuards(2);
        x.arrive(0, 0, 9, 60);
        x.pass(2);
        x.arrive(0, 0, 0, 60);
        x.pass(1);
        due.is("stateOf(0), let through by guard 0", 2, x.stateOf(0));
        due.is("searches(1)", 1, x.searches(1));
        due.is("minutesToGo(1), with noise 9", 4, x.minutesToGo(1));
    }

    private static void anEndIsNotHeardByGuardsAhead() {
        SleepBorder x = Borders.withGuards(2);
        x.arrive(0, 0, 0, 60);
        x.arrive(0, 1, 9, 60);
        x.arrive(0, 0, 0, 60);
        x.pass(4);
        due.is("stateOf(1), let through by guard 1", 2, x.stateOf(1));
        due.is("searches(0)", 2, x.searches(0));
        due.is("minutesToGo(0), without noise", 2, x.minutesToGo(0));
    }

    private static void aSearchGoesOn() {
        SleepBorder x = Borders.withGuards(2);
        x.arrive(0, 9, 0, 60);
        x.arrive(0, 4, 0, 60);
        for (int minute = 1; minute <= 6; minute++) {
            x.pass(1);
            due.is("minutesToGo(0) behind " + minute, 12 - minute, x.minutesToGo(0));
            due.is("minutesToGo(1) behind " + minute, 7 - minute, x.minutesToGo(1));
            due.is("searches(0) behind " + minute, 0, x.searches(0));
            due.is("searches(1) behind " + minute, 1, x.searches(1));
        }
    }

    private static void aSearchEnds() {
        SleepBorder x = Borders.withGuards(1);
        x.arrive(0, 9, 0, 60);
        x.pass(11);
        due.is("searches(0) with a minute to go", 0, x.searches(0));
        due.is("minutesToGo(0) with a minute to go", 1, x.minutesToGo(0));
        due.is("stateOf(0) with a minute to go", 1, x.stateOf(0));
        x.pass(1);
        due.is("searches(0) with none left", -1, x.searches(0));
        due.is("minutesToGo(0) with none left", 0, x.minutesToGo(0));
        due.is("stateOf(0) with none left", 2, x.stateOf(0));
    }

    private static void whoIsFoundPays() {
        for (int hidden = 1; hidden <= 9; hidden++) {
            SleepBorder x = Borders.withGuards(1);
            x.arrive(9, 9 - hidden, 0, 60);
            x.pass(11 - hidden);
            due.is("paid() a minute before the end", 0, x.paid());
            x.pass(1);
            due.is("paid() for " + hidden, 3 * hidden, x.paid());
            x.pass(60);
            due.is("paid() for " + hidden + " later", 3 * hidden, x.paid());
        }
    }

    private static void whoIsFoundIsSentBack() {
        SleepBorder x = Borders.withGuards(1);
        x.arrive(9, 0, 9, 60);
        x.pass(2);
        due.is("stateOf(0) a minute before the end", 1, x.stateOf(0));
        for (int minute = 3; minute <= 12; minute++) {
            x.pass(1);
            due.is("stateOf(0) behind " + minute, 4, x.stateOf(0));
            due.is("noise() behind " + minute, 0, x.noise());
            due.is("searches(0) behind " + minute, -1, x.searches(0));
        }
        due.is("expired()", 0, x.expired());
    }

    private static void theAlertnessOfThisGuardCounts() {
        SleepBorder x = Borders.withGuards(2);
        x.arrive(0, 0, 0, 60);
        x.arrive(0, 9, 0, 60);
        x.arrive(1, 0, 0, 60);
        x.arrive(2, 0, 0, 60);
        x.pass(6);
        due.is("stateOf(2), 1 hidden, guard 0 with 8, guard 1 with 9", 2, x.stateOf(2));
        due.is("alertnessOf(0)", 7, x.alertnessOf(0));
        x.pass(1);
        due.is("alertnessOf(0) as the search of 3 begins", 7, x.alertnessOf(0));
        x.wake(0);
        x.pass(2);
        due.is("stateOf(3), 2 hidden, guard 0 woken in the search", 4, x.stateOf(3));
        SleepBorder y = Borders.withGuards(1);
        y.arrive(1, 0, 0, 60);
        y.pass(3);
        due.is("stateOf(0), 1 hidden, to 9 before it is 8", 4, y.stateOf(0));
    }

    private static void whoIsNotFoundIsInTransit() {
        SleepBorder x = Borders.withGuards(1);
        x.arrive(0, 0, 5, 60);
        x.arrive(1, 0, 7, 60);
        x.pass(3);
        due.is("stateOf(0) with nothing hidden", 2, x.stateOf(0));
        due.is("noise()", 5, x.noise());
        // With noise 5, a search takes 3 minutes.
        x.pass(4);
        due.is("stateOf(1) with 1 hidden to an alertness of 8", 2, x.stateOf(1));
        due.is("noise()", 12, x.noise());
        due.is("sentBack()", 0, x.sentBack());
        due.is("paid()", 0, x.paid());
    }

    private static void aTransitTakesFiveMinutes() {
        for (int declared = 0; declared <= 9; declared++) {
            SleepBorder x = Borders.withGuards(1);
            x.arrive(0, declared, 9, 60);
            x.pass(3 + declared);
            for (int minute = 0; minute < 5; minute++) {
                due.is("stateOf(0) in minute " + minute + " of the transit", 2, x.stateOf(0));
                x.pass(1);
            }
            due.is("stateOf(0) behind the transit", 3, x.stateOf(0));
        }
    }

    private static void theAlertnessFallsAtAnEnd() {
        SleepBorder x = Borders.withGuards(2);
        x.arrive(0, 0, 0, 60);
        x.arrive(9, 4, 0, 60);
        int[] first = {9, 9, 8};
        for (int minute = 0; minute < 3; minute++) {
            x.pass(1);
            due.is("alertnessOf(0), who lets one through", first[minute], x.alertnessOf(0));
            due.is("alertnessOf(1)", 9, x.alertnessOf(1));
        }
        x.pass(3);
        due.is("alertnessOf(1) a minute before the end", 9, x.alertnessOf(1));
        x.pass(1);
        due.is("stateOf(1)", 4, x.stateOf(1));
        due.is("alertnessOf(1), who finds one", 8, x.alertnessOf(1));
    }

    private static void theAlertnessIsAtLeastZero() {
        SleepBorder x = Borders.withGuards(1);
        Borders.plainOnes(x, 12);
        int[] alertness = {8, 7, 6, 5, 4, 3, 2, 1, 0, 0, 0, 0};
        for (int searches = 0; searches < 12; searches++) {
            x.pass(3);
            due.is("alertnessOf(0) behind search " + searches, alertness[searches], x.alertnessOf(0));
        }
        x.pass(1);
        due.is("alertnessOf(0) a minute later", 1, x.alertnessOf(0));
    }

    private static void noSearchBeginsInTheMinuteOfAnEnd() {
        SleepBorder x = Borders.withGuards(1);
        Borders.plainOnes(x, 2);
        x.pass(3);
        due.is("searches(0) in the minute of the end", -1, x.searches(0));
        due.is("minutesToGo(0) in the minute of the end", 0, x.minutesToGo(0));
        due.is("stateOf(1) in the minute of the end", 0, x.stateOf(1));
        x.pass(1);
        due.is("searches(0) in the next", 1, x.searches(0));
    }

    private static void aFreeGuardBeginsToSearch() {
        SleepBorder x = Borders.withGuards(1);
        x.pass(5);
        x.arrive(0, 0, 0, 60);
        x.pass(1);
        due.is("searches(0)", 0, x.searches(0));
        due.is("stateOf(0)", 1, x.stateOf(0));
        SleepBorder y = new SleepBorder();
        y.arrive(0, 0, 0, 60);
        y.pass(5);
        y.addGuard();
        due.is("stateOf(0) as the guard comes", 0, y.stateOf(0));
        y.pass(1);
        due.is("stateOf(0) a minute later", 1, y.stateOf(0));
        due.is("minutesToGo(0)", 2, y.minutesToGo(0));
    }

    private static void theSmallestNumberIsSearchedFirst() {
        SleepBorder x = Borders.withGuards(1);
        // The one with the longest lullaby is first, and the one with the shortest expires in between.
        x.arrive(0, 0, 0, 60);
        x.arrive(0, 0, 0, 50);
        x.arrive(0, 0, 0, 4);
        x.arrive(0, 0, 0, 40);
        int[] searched = {0, 1, 3};
        for (int one : searched) {
            x.pass(1);
            due.is("searches(0)", one, x.searches(0));
            x.pass(2);
        }
    }

    private static void theAlertnessGrowsIfNobodyWaits() {
        SleepBorder x = Borders.withGuards(1);
        Borders.plainOnes(x, 10);
        // The tenth is searched as the alertness is 0 already.
        x.pass(30);
        for (int alertness = 0; alertness <= 9; alertness++) {
            due.is("alertnessOf(0)", alertness, x.alertnessOf(0));
            x.pass(1);
        }
    }

    private static void theAlertnessDoesNotGrowAtABegin() {
        SleepBorder x = Borders.withGuards(2);
        Borders.plainOnes(x, 3);
        x.pass(3);
        due.is("alertnessOf(0) behind the end", 8, x.alertnessOf(0));
        x.pass(1);
        due.is("alertnessOf(0), who begins the third", 8, x.alertnessOf(0));
        due.is("alertnessOf(1), as nobody waits", 9, x.alertnessOf(1));
        x.pass(1);
        due.is("alertnessOf(0), who searches as nobody waits", 8, x.alertnessOf(0));
    }

    private static void theAlertnessDoesNotGrowInTheMinuteOfAnEnd() {
        SleepBorder x = Borders.withGuards(1);
        x.arrive(0, 0, 0, 60);
        x.pass(3);
        due.is("alertnessOf(0) in the minute of the end", 8, x.alertnessOf(0));
        x.pass(1);
        due.is("alertnessOf(0) in the next", 9, x.alertnessOf(0));
    }

    private static void theAlertnessIsAtMostNine() {
        SleepBorder x = Borders.withGuards(2);
        x.pass(1);
        due.is("alertnessOf(0) behind a minute", 9, x.alertnessOf(0));
        x.pass(60);
        due.is("alertnessOf(0) behind an hour", 9, x.alertnessOf(0));
        x.arrive(0, 0, 0, 60);
        x.pass(4);
        due.is("alertnessOf(0), 9 again", 9, x.alertnessOf(0));
        x.pass(1);
        due.is("alertnessOf(0), still 9", 9, x.alertnessOf(0));
        due.is("alertnessOf(1)", 9, x.alertnessOf(1));
    }

    private static void theMinuteIsOneGreater() {
        SleepBorder x = Borders.busy();
        due.is("minute()", 9, x.minute());
        for (int minute = 10; minute <= 30; minute++) {
            x.pass(1);
            due.is("minute()", minute, x.minute());
        }
    }
}
