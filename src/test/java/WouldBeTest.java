import java.math.BigInteger;
import java.util.function.Consumer;

/** Promises 28 to 33: minutesUntilAsleep, asleepIn, bestToDeclare, guardsWanted, meanAlertness and digest. */
public final class WouldBeTest {
    // 2131 * 31^13 - 31^4 - 31^2 as a 64-bit integer: nobody is next, and no guard the most alert.
    private static final long NEW_DIGEST = -4473872079260271797L;

    private static final Due due = new Due();

    public static void main(String[] args) {
        due.sentence("28: Returns in how many minutes this one is asleep", WouldBeTest::minutesUntilAsleep);
        due.sentence("28: by the noise as it would be", WouldBeTest::minutesUntilAsleepInNoise);
        due.sentence("28: 0 if so now", WouldBeTest::minutesUntilAsleepOfOneAsleep);
        due.sentence("28: at most 100", WouldBeTest::minutesUntilAsleepOfTheLatest);
        due.sentence("28: -1 if not by then: without guards", WouldBeTest::minutesUntilAsleepWithoutGuards);
        due.sentence("28: -1 if not by then: would expire", WouldBeTest::minutesUntilAsleepOfOneWhoWouldExpire);
        due.sentence("28: -1 if not by then: would be found", WouldBeTest::minutesUntilAsleepOfOneWhoWouldBeFound);
        due.sentence("28: -1 if not by then: sent back", WouldBeTest::minutesUntilAsleepOfOneSentBack);
        due.sentence("28: nothing is changed", WouldBeTest::minutesUntilAsleepChangesNothing);
        due.sentence("28: Throws IndexOutOfBoundsException if there is no such traveller",
            WouldBeTest::minutesUntilAsleepOfNoSuchTraveller);
        due.sentence("29: Returns how many sleep behind them", WouldBeTest::asleepIn);
        due.sentence("29: those who sleep already too", WouldBeTest::asleepInOfThoseAsleep);
        due.sentence("29: behind 60 minutes, not behind 59", WouldBeTest::asleepInAnHour);
        due.sentence("29: none to 24", WouldBeTest::asleepInNoneToAll);
        due.sentence("29: nothing is changed", WouldBeTest::asleepInChangesNothing);
        due.sentence("29: Throws IllegalArgumentException if minutes is not 1 to 60",
            WouldBeTest::asleepInOfBadMinutes);
        due.sentence("30: how many dreams this one had best declare now, 0 to 9", WouldBeTest::bestToDeclare);
        due.sentence("30: so as to be asleep the soonest, the fewest", WouldBeTest::bestToDeclareIsTheFewest);
        due.sentence("30: to a guard who is tired by then", WouldBeTest::bestToDeclareToATiredGuard);
        due.sentence("30: if nothing else is done", WouldBeTest::bestToDeclareBesideOthers);
        due.sentence("30: -1 if this one does not wait", WouldBeTest::bestToDeclareOfOneWhoDoesNotWait);
        due.sentence("30: -1 if this one would sleep with none", WouldBeTest::bestToDeclareOfOneWhoCannotSleep);
        due.sentence("30: within 100 minutes", WouldBeTest::bestToDeclareOfTheLatest);
        due.sentence("30: nothing is changed", WouldBeTest::bestToDeclareChangesNothing);
        due.sentence("30: Throws IndexOutOfBoundsException if there is no such traveller",
            WouldBeTest::bestToDeclareOfNoSuchTraveller);
        due.sentence("31: how many guards more, 0 to 4; -1 if 4 do not do", WouldBeTest::guardsWanted);
        due.sentence("31: 0 as nobody waits", WouldBeTest::guardsWantedForNobody);
        due.sentence("31: more: beside those who are there", WouldBeTest::guardsWantedBesideOthers);
        due.sentence("31: however many there are", WouldBeTest::guardsWantedBesideFour);
        due.sentence("31: would have to come now, each searching nobody", WouldBeTest::guardsWantedBeginAtOnce);
        due.sentence("31: with an alertness of 9", WouldBeTest::guardsWantedAreFullyAlert);
        due.sentence("31: nobody who waits now: who expired before does not count",
            WouldBeTest::guardsWantedForThoseWhoWaitNow);
        due.sentence("31: is sent back with an expired lullaby: who is found does not count",
            WouldBeTest::guardsWantedForThoseWhoAreFound);
        due.sentence("31: within 60 minutes", WouldBeTest::guardsWantedForAnHour);
        due.sentence("31: by the noise as it would be", WouldBeTest::guardsWantedInNoise);
        due.sentence("31: nothing is changed", WouldBeTest::guardsWantedChangesNothing);
        due.sentence("32: Returns the mean alertness of guards", WouldBeTest::meanAlertness);
        due.sentence("32: is not cut", WouldBeTest::meanAlertnessIsNotCut);
        due.sentence("32: 0 without any", WouldBeTest::meanAlertnessWithoutGuards);
        due.sentence("33: A number d starts with 2131; d becomes d * 31 + x", WouldBeTest::digestOfANewBorder);
        due.sentence("33: which wraps around as a 64-bit integer", WouldBeTest::digestWrapsAround);
        due.sentence("33: asleepIn(30)", WouldBeTest::digestAsksForThirtyMinutes);
        due.sentence("33: for each traveller, for each guard", WouldBeTest::digestTellsOfEach);
        due.sentence("33: each number changes it", WouldBeTest::digestTellsOfEveryChange);
        due.sentence("33: a digest changes nothing", WouldBeTest::digestChangesNothing);
        due.end("WouldBeTest");
    }

    private static void minutesUntilAsleep() {
        SleepBorder x = Borders.withGuards(1);
        Borders.plainOnes(x, 2);
        for (int minute = 0; minute < 12; minute++) {
            due.is("minutesUntilAsleep(0) at " + minute, Math.max(8 - minute, 0), x.minutesUntilAsleep(0));
            due.is("minutesUntilAsleep(1) at " + minute, Math.max(11 - minute, 0), x.minutesUntilAsleep(1));
            x.pass(1);
        }
    }

    private static void minutesUntilAsleepInNoise() {
        SleepBorder x = Borders.withGuards(1);
        x.arrive(0, 0, 9, 60);
        x.arrive(0, 0, 0, 60);
        // The second search begins in the fourth minute, with noise 9, and takes 4 minutes.
        due.is("minutesUntilAsleep(1) before there is noise", 13, x.minutesUntilAsleep(1));
        x.pass(3);
        due.is("minutesUntilAsleep(1) as there is noise", 10, x.minutesUntilAsleep(1));
    }

    private static void minutesUntilAsleepOfOneAsleep() {
        int[] minutes = {15, 14, 5, 0};
        for (int state = 0; state < minutes.length; state++) {
            due.is("minutesUntilAsleep(0) in state " + state,
                minutes[state], Borders.firstIn(state).minutesUntilAsleep(0));
        }
        SleepBorder x = Borders.firstIn(Borders.ASLEEP);
        x.pass(60);
        due.is("minutesUntilAsleep(0) long asleep", 0, x.minutesUntilAsleep(0));
        x.arrive(0, 0, 0, 60);
        due.is("minutesUntilAsleep(0) beside one who waits", 0, x.minutesUntilAsleep(0));
    }

    /** Traveller 21 waits as long and is searched in as much noise as can be: 59, 21 and 5 minutes. */
    private static SleepBorder theLatest(int lullaby, int dreams) {
        SleepBorder x = Borders.withGuards(4);
        for (int i = 0; i < 16; i++) {
            x.arrive(0, 9, 0, 60);
        }
        x.arrive(0, 4, 7, 60);
        x.arrive(0, 8, 9, 60);
        x.arrive(0, 8, 9, 60);
        x.arrive(0, 7, 9, 60);
        x.arrive(0, 0, 9, 60);
        x.arrive(dreams, 9, 0, lullaby);
        return x;
    }

    private static void minutesUntilAsleepOfTheLatest() {
        due.is("minutesUntilAsleep(21)", 85, theLatest(60, 0).minutesUntilAsleep(21));
        due.is("minutesUntilAsleep(21), whose lullaby expires", -1, theLatest(59, 0).minutesUntilAsleep(21));
        SleepBorder x = theLatest(60, 0);
        due.is("pass(60)", 17, x.pass(60));
        due.is("pass(24)", 4, x.pass(24));
        due.is("pass(1), the 85th", 1, x.pass(1));
        due.is("stateOf(21)", 3, x.stateOf(21));
    }

    private static void minutesUntilAsleepWithoutGuards() {
        SleepBorder x = new SleepBorder();
        x.arrive(0, 0, 0, 60);
        due.is("minutesUntilAsleep(0)", -1, x.minutesUntilAsleep(0));
        x.addGuard();
        due.is("minutesUntilAsleep(0) with a guard", 8, x.minutesUntilAsleep(0));
    }

    private static void minutesUntilAsleepOfOneWhoWouldExpire() {
        SleepBorder x = Borders.withGuards(1);
        x.arrive(0, 0, 0, 1);
        x.arrive(0, 0, 0, 60);
        x.arrive(0, 0, 0, 4);
        x.arrive(0, 0, 0, 5);
        due.is("minutesUntilAsleep(0)", -1, x.minutesUntilAsleep(0));
        due.is("minutesUntilAsleep(1)", 8, x.minutesUntilAsleep(1));
        due.is("minutesUntilAsleep(2)", -1, x.minutesUntilAsleep(2));
        due.is("minutesUntilAsleep(3)", 11, x.minutesUntilAsleep(3));
    }

    private static void minutesUntilAsleepOfOneWhoWouldBeFound() {
        SleepBorder x = Borders.withGuards(1);
        x.arrive(1, 0, 0, 60);
        x.arrive(1, 0, 0, 60);
        for (int minute = 0; minute < 5; minute++) {
            due.is("minutesUntilAsleep(0), 1 hidden to 9", -1, x.minutesUntilAsleep(0));
            due.is("minutesUntilAsleep(1), 1 hidden to 8", 11 - minute, x.minutesUntilAsleep(1));
            x.pass(1);
        }
    }

    private static void minutesUntilAsleepOfOneSentBack() {
        due.is("minutesUntilAsleep(0) found", -1, Borders.firstIn(Borders.FOUND).minutesUntilAsleep(0));
        due.is("minutesUntilAsleep(0) expired", -1, Borders.firstIn(Borders.EXPIRED).minutesUntilAsleep(0));
    }

    /** A border behind the question, busy or full, must go on like one that was not asked. */
    private static void unchanged(Consumer<SleepBorder> question) {
        unchanged(Borders.busy(), Borders.busy(), question);
        unchanged(Borders.full(), Borders.full(), question);
    }

    private static void unchanged(SleepBorder x, SleepBorder notAsked, Consumer<SleepBorder> question) {
        question.accept(x);
        due.is("minute()", 9, x.minute());
        due.is("all that is seen", Borders.seen(notAsked), Borders.seen(x));
        x.pass(10);
        notAsked.pass(10);
        due.is("all that is seen later", Borders.seen(notAsked), Borders.seen(x));
    }

    private static void minutesUntilAsleepChangesNothing() {
        unchanged(x -> {
            for (int traveller = 0; traveller < 8; traveller++) {
                x.minutesUntilAsleep(traveller);
            }
        });
    }

    private static void minutesUntilAsleepOfNoSuchTraveller() {
        SleepBorder x = Borders.withGuards(1);
        for (int came = 0; came <= 24; came += 6) {
            for (int wrong : Borders.notOf(came)) {
                due.refuses("minutesUntilAsleep(" + wrong + ") of " + came, Borders.NO_SUCH,
                    () -> x.minutesUntilAsleep(wrong));
            }
            Borders.plainOnes(x, came < 24 ? 6 : 0);
        }
        due.is("minutesUntilAsleep(0)", 8, x.minutesUntilAsleep(0));
        due.is("minutesUntilAsleep(23), too late", -1, x.minutesUntilAsleep(23));
    }

    private static void asleepIn() {
        SleepBorder x = Borders.withGuards(1);
        x.arrive(0, 0, 0, 60);
        x.arrive(0, 0, 0, 60);
        x.arrive(9, 0, 0, 60);
        due.is("asleepIn(1)", 0, x.asleepIn(1));
        due.is("asleepIn(7)", 0, x.asleepIn(7));
        due.is("asleepIn(8)", 1, x.asleepIn(8));
        due.is("asleepIn(10)", 1, x.asleepIn(10));
        due.is("asleepIn(11)", 2, x.asleepIn(11));
        due.is("asleepIn(60), one of three found", 2, x.asleepIn(60));
    }

    private static void asleepInOfThoseAsleep() {
        SleepBorder x = Borders.withGuards(1);
        Borders.plainOnes(x, 2);
        x.pass(10);
        due.is("asleep()", 1, x.asleep());
        due.is("asleepIn(1)", 2, x.asleepIn(1));
        x.pass(1);
        due.is("asleepIn(1) as all sleep", 2, x.asleepIn(1));
        due.is("asleepIn(60) as all sleep", 2, x.asleepIn(60));
    }

    private static void asleepInAnHour() {
        SleepBorder x = Borders.withGuards(1);
        x.arrive(0, 1, 0, 60);
        Borders.plainOnes(x, 18);
        // Traveller n falls asleep in minute 3 n + 9, traveller 17 in minute 60.
        due.is("asleepIn(1)", 0, x.asleepIn(1));
        due.is("asleepIn(59)", 17, x.asleepIn(59));
        due.is("asleepIn(60)", 18, x.asleepIn(60));
        due.is("pass(60)", 18, x.pass(60));
    }

    private static void asleepInNoneToAll() {
        due.is("asleepIn(60) with nobody", 0, new SleepBorder().asleepIn(60));
        SleepBorder x = Borders.withGuards(4);
        Borders.plainOnes(x, 24);
        due.is("asleepIn(7)", 0, x.asleepIn(7));
        due.is("asleepIn(22)", 20, x.asleepIn(22));
        due.is("asleepIn(23)", 24, x.asleepIn(23));
        due.is("asleepIn(60)", 24, x.asleepIn(60));
    }

    private static void asleepInChangesNothing() {
        unchanged(x -> {
            x.asleepIn(1);
            x.asleepIn(60);
        });
    }

    private static void asleepInOfBadMinutes() {
        SleepBorder x = Borders.busy();
        for (int wrong : Borders.notMinutes()) {
            due.refuses("asleepIn(" + wrong + ")", Borders.BAD, () -> x.asleepIn(wrong));
        }
        due.is("asleepIn(1)", 1, x.asleepIn(1));
        due.is("asleepIn(60)", 3, x.asleepIn(60));
    }

    private static void bestToDeclare() {
        for (int dreams = 0; dreams <= 9; dreams++) {
            for (int declared = 0; declared <= 9; declared++) {
                SleepBorder x = Borders.withGuards(1);
                x.arrive(dreams, declared, 0, 60);
                due.is("bestToDeclare(0) of " + dreams + " dreams, " + declared + " declared",
                    dreams, x.bestToDeclare(0));
            }
        }
    }

    private static void bestToDeclareIsTheFewest() {
        for (int dreams = 0; dreams <= 9; dreams++) {
            SleepBorder x = Borders.withGuards(1);
            Borders.plainOnes(x, 9);
            x.arrive(dreams, 9, 0, 60);
            // By then the guard has an alertness of 0 and finds nothing: each number of dreams would do.
            due.is("bestToDeclare(9) of " + dreams + " dreams", 0, x.bestToDeclare(9));
            int before = x.minutesUntilAsleep(9);
            x.declare(9, 0);
            due.is("minutesUntilAsleep(9)", before - 9, x.minutesUntilAsleep(9));
        }
    }

    private static void bestToDeclareToATiredGuard() {
        SleepBorder x = Borders.withGuards(1);
        Borders.plainOnes(x, 4);
        x.arrive(9, 0, 0, 60);
        // The fifth search ends with an alertness of 5: 4 hidden dreams are not found.
        due.is("bestToDeclare(4)", 5, x.bestToDeclare(4));
        x.declare(4, 5);
        due.is("minutesUntilAsleep(4) with 5", 25, x.minutesUntilAsleep(4));
        x.declare(4, 4);
        due.is("minutesUntilAsleep(4) with 4", -1, x.minutesUntilAsleep(4));
    }

    private static void bestToDeclareBesideOthers() {
        SleepBorder x = Borders.withGuards(1);
        x.arrive(9, 0, 0, 60);
        x.arrive(9, 0, 0, 60);
        // The first one is found all the same, which makes the guard tired: 8 and 1 hidden is not found.
        due.is("bestToDeclare(1)", 8, x.bestToDeclare(1));
        due.is("bestToDeclare(0)", 9, x.bestToDeclare(0));
        x.declare(0, 9);
        x.sing(1, 13);
        due.is("bestToDeclare(1) as the first search takes 11 minutes", -1, x.bestToDeclare(1));
        x.sing(1, 14);
        due.is("bestToDeclare(1) with a lullaby for that", 8, x.bestToDeclare(1));
    }

    private static void bestToDeclareOfOneWhoDoesNotWait() {
        due.is("bestToDeclare(0) of one who waits", 7, Borders.firstIn(Borders.WAITING).bestToDeclare(0));
        for (int state = Borders.SEARCHED; state <= Borders.EXPIRED; state++) {
            due.is("bestToDeclare(0) in state " + state, -1, Borders.firstIn(state).bestToDeclare(0));
        }
    }

    private static void bestToDeclareOfOneWhoCannotSleep() {
        SleepBorder x = new SleepBorder();
        x.arrive(0, 0, 0, 60);
        x.arrive(0, 0, 0, 4);
        x.arrive(0, 0, 0, 1);
        due.is("bestToDeclare(0) without guards", -1, x.bestToDeclare(0));
        x.addGuard();
        due.is("bestToDeclare(0)", 0, x.bestToDeclare(0));
        due.is("bestToDeclare(1), who would expire", -1, x.bestToDeclare(1));
        due.is("bestToDeclare(2), who would expire at once", -1, x.bestToDeclare(2));
        x.sing(1, 5);
        due.is("bestToDeclare(1) with a minute more", 0, x.bestToDeclare(1));
    }

    private static void bestToDeclareOfTheLatest() {
        // Behind four searches and more the guard is tired: 5 of 9 dreams hidden are not found.
        SleepBorder x = theLatest(60, 9);
        due.is("bestToDeclare(21)", 4, x.bestToDeclare(21));
        x.declare(21, 4);
        due.is("minutesUntilAsleep(21)", 80, x.minutesUntilAsleep(21));
    }

    private static void bestToDeclareChangesNothing() {
        unchanged(x -> {
            for (int traveller = 0; traveller < 8; traveller++) {
                x.bestToDeclare(traveller);
            }
        });
        SleepBorder x = Borders.busy();
        x.bestToDeclare(6);
        due.is("declare(6, 0), which tells how many before", 2, x.declare(6, 0));
    }

    private static void bestToDeclareOfNoSuchTraveller() {
        SleepBorder x = Borders.withGuards(1);
        for (int came = 0; came <= 24; came += 6) {
            for (int wrong : Borders.notOf(came)) {
                due.refuses("bestToDeclare(" + wrong + ") of " + came, Borders.NO_SUCH, () -> x.bestToDeclare(wrong));
            }
            Borders.plainOnes(x, came < 24 ? 6 : 0);
        }
        due.is("bestToDeclare(0)", 0, x.bestToDeclare(0));
        due.is("bestToDeclare(23), too late", -1, x.bestToDeclare(23));
    }

    private static void guardsWanted() {
        SleepBorder x = new SleepBorder();
        for (int came = 0; came <= 4; came++) {
            due.is("guardsWanted() for " + came, came, x.guardsWanted());
            x.arrive(0, 0, 0, 2);
        }
        due.is("guardsWanted() for 5", -1, x.guardsWanted());
        x.sing(4, 5);
        due.is("guardsWanted() for 5, of whom one can wait", 4, x.guardsWanted());
        x.sing(4, 4);
        due.is("guardsWanted() for 5, of whom one cannot wait", -1, x.guardsWanted());
        SleepBorder y = new SleepBorder();
        y.arrive(0, 0, 0, 1);
        due.is("guardsWanted() for one who expires at once", -1, y.guardsWanted());
    }

    private static void guardsWantedForNobody() {
        due.is("guardsWanted() of a new border", 0, new SleepBorder().guardsWanted());
        for (int state = Borders.SEARCHED; state <= Borders.EXPIRED; state++) {
            due.is("guardsWanted() in state " + state, 0, Borders.firstIn(state).guardsWanted());
        }
    }

    private static void guardsWantedBesideOthers() {
        SleepBorder x = Borders.withGuards(1);
        x.arrive(0, 9, 0, 60);
        x.pass(1);
        x.arrive(0, 0, 0, 2);
        x.arrive(0, 0, 0, 2);
        due.is("guardsWanted() beside one who searches", 2, x.guardsWanted());
        x.addGuard();
        due.is("guardsWanted() beside one more", 1, x.guardsWanted());
        x.addGuard();
        due.is("guardsWanted() beside two more", 0, x.guardsWanted());
    }

    private static void guardsWantedBesideFour() {
        SleepBorder x = Borders.withGuards(4);
        int[] wanted = {0, 0, 0, 0, 1, 2, 3, 4, -1};
        for (int came = 1; came <= 9; came++) {
            x.arrive(0, 0, 0, 2);
            due.is("guardsWanted() beside 4 for " + came, wanted[came - 1], x.guardsWanted());
        }
        due.is("guards()", 4, x.guards());
    }

    private static void guardsWantedBeginAtOnce() {
        SleepBorder x = new SleepBorder();
        x.arrive(0, 0, 0, 2);
        due.is("guardsWanted() for a lullaby of 2", 1, x.guardsWanted());
        x.sing(0, 1);
        due.is("guardsWanted() for a lullaby of 1", -1, x.guardsWanted());
        x.sing(0, 2);
        x.arrive(0, 0, 0, 5);
        due.is("guardsWanted() for one more, of 5", 1, x.guardsWanted());
        x.sing(1, 4);
        due.is("guardsWanted() for one more, of 4", 2, x.guardsWanted());
    }

    private static void guardsWantedAreFullyAlert() {
        SleepBorder x = new SleepBorder();
        // With an alertness of 9 the first one is found, does not snore, and the second search is short.
        x.arrive(1, 0, 9, 60);
        x.arrive(0, 0, 0, 60);
        x.arrive(0, 0, 0, 8);
        due.is("guardsWanted(), 1 hidden", 1, x.guardsWanted());
        x.declare(0, 1);
        due.is("guardsWanted(), nothing hidden", 2, x.guardsWanted());
    }

    private static void guardsWantedForThoseWhoWaitNow() {
        SleepBorder x = new SleepBorder();
        x.arrive(0, 0, 0, 1);
        x.pass(1);
        due.is("expired()", 1, x.expired());
        due.is("guardsWanted() as nobody waits", 0, x.guardsWanted());
        x.arrive(0, 0, 0, 9);
        due.is("guardsWanted() as another waits", 1, x.guardsWanted());
    }

    private static void guardsWantedForThoseWhoAreFound() {
        SleepBorder x = Borders.withGuards(1);
        x.arrive(9, 0, 0, 2);
        x.arrive(9, 0, 0, 5);
        due.is("guardsWanted() for two who will pay", 0, x.guardsWanted());
        x.pass(1);
        due.is("guardsWanted() as one is searched", 0, x.guardsWanted());
    }

    private static void guardsWantedForAnHour() {
        SleepBorder x = new SleepBorder();
        x.arrive(0, 0, 0, 60);
        due.is("guardsWanted() for a lullaby of 60", 1, x.guardsWanted());
        x.pass(1);
        due.is("guardsWanted() for a lullaby of 59", 1, x.guardsWanted());
    }

    private static void guardsWantedInNoise() {
        SleepBorder x = Borders.withGuards(1);
        x.arrive(0, 0, 9, 60);
        x.arrive(0, 0, 0, 60);
        x.arrive(0, 0, 0, 9);
        // The second search begins with noise 9 and ends in minute 8, and the third begins in minute 9.
        due.is("guardsWanted() with a lullaby of 9", 1, x.guardsWanted());
        x.sing(2, 10);
        due.is("guardsWanted() with a lullaby of 10", 0, x.guardsWanted());
    }

    private static void guardsWantedChangesNothing() {
        unchanged(SleepBorder::guardsWanted);
        SleepBorder x = new SleepBorder();
        Borders.plainOnes(x, 24);
        x.guardsWanted();
        due.is("guards()", 0, x.guards());
        due.refuses("alertnessOf(0)", Borders.NO_SUCH, () -> x.alertnessOf(0));
        due.is("addGuard()", 0, x.addGuard());
        due.is("searches(0)", -1, x.searches(0));
    }

    private static void meanAlertness() {
        SleepBorder x = new SleepBorder();
        for (int guards = 1; guards <= 4; guards++) {
            x.addGuard();
            due.is("meanAlertness() of " + guards + " with 9", 9.0, x.meanAlertness());
        }
        SleepBorder y = Borders.withGuards(1);
        Borders.plainOnes(y, 10);
        for (int alertness = 9; alertness >= 0; alertness--) {
            due.is("meanAlertness() of one with " + alertness, (double) alertness, y.meanAlertness());
            y.pass(3);
        }
    }

    private static void meanAlertnessIsNotCut() {
        SleepBorder x = Borders.withGuards(1);
        x.arrive(0, 0, 0, 60);
        x.arrive(0, 9, 0, 60);
        x.pass(4);
        double[] means = {8.0, 17.0 / 2.0, 26.0 / 3.0, 35.0 / 4.0};
        for (int guards = 1; guards <= 4; guards++) {
            due.is("meanAlertness() of 8 and " + (guards - 1) + " with 9", means[guards - 1], x.meanAlertness());
            if (guards < 4) {
                x.addGuard();
            }
        }
    }

    private static void meanAlertnessWithoutGuards() {
        SleepBorder x = new SleepBorder();
        due.is("meanAlertness() of a new border", 0.0, x.meanAlertness());
        Borders.plainOnes(x, 3);
        x.pass(1);
        due.is("meanAlertness() with travellers alone", 0.0, x.meanAlertness());
    }

    private static void digestOfANewBorder() {
        due.is("digest() of a new border", NEW_DIGEST, new SleepBorder().digest());
    }

    private static void digestWrapsAround() {
        SleepBorder[] some = {new SleepBorder(), Borders.withGuards(4), Borders.busy(), Borders.full()};
        for (SleepBorder x : some) {
            BigInteger whole = wholeDigestOf(x);
            due.is("the digest is greater than 64 bits", true, whole.bitLength() > 64);
            due.is("digest()", whole.longValue(), x.digest());
        }
    }

    private static void digestAsksForThirtyMinutes() {
        SleepBorder x = Borders.withGuards(2);
        int[] declared = {9, 9, 0, 1, 7, 7};
        for (int dreams : declared) {
            x.arrive(0, dreams, 0, 60);
        }
        due.is("asleepIn(29)", 4, x.asleepIn(29));
        due.is("asleepIn(30)", 5, x.asleepIn(30));
        due.is("asleepIn(31)", 6, x.asleepIn(31));
        due.is("digest()", wholeDigestOf(x).longValue(), x.digest());
    }

    private static void digestTellsOfEach() {
        for (int came = 0; came < 24; came++) {
            SleepBorder x = new SleepBorder();
            for (int i = 0; i <= came; i++) {
                if (i % 7 == 2) {
                    x.addGuard();
                }
                x.arrive(i % 10, i * 7 % 10, i * 3 % 10, 1 + i * 11 % 60);
                x.pass(1 + i % 4);
            }
            due.is("digest() of " + (came + 1), wholeDigestOf(x).longValue(), x.digest());
        }
    }

    private static void digestTellsOfEveryChange() {
        for (int state = 0; state <= Borders.EXPIRED; state++) {
            SleepBorder x = Borders.firstIn(state);
            due.is("digest() in state " + state, wholeDigestOf(x).longValue(), x.digest());
            for (int minute = 0; minute < 6; minute++) {
                long before = x.digest();
                x.pass(1);
                due.is("digest() is another a minute later", true, before != x.digest());
            }
            long before = x.digest();
            x.addGuard();
            due.is("digest() is another with another guard", true, before != x.digest());
        }
    }

    private static void digestChangesNothing() {
        unchanged(SleepBorder::digest);
    }

    /** The digest by the answers of the border itself, as it is before it wraps around. */
    private static BigInteger wholeDigestOf(SleepBorder x) {
        BigInteger d = BigInteger.valueOf(2131);
        d = with(d, x.minute(), x.travellers(), x.waiting(), x.asleep(), x.sentBack(), x.expired(), x.paid(),
            x.noise(), x.nextInLine(), x.guards(), x.mostAlert(), x.asleepIn(30), x.guardsWanted());
        int travellers = x.travellers();
        for (int i = 0; i < travellers; i++) {
            d = with(d, x.stateOf(i), x.hiddenOf(i), x.lullabyOf(i), x.placeInLine(i), x.searchTime(i),
                x.minutesUntilAsleep(i));
        }
        int guards = x.guards();
        for (int i = 0; i < guards; i++) {
            d = with(d, x.alertnessOf(i), x.searches(i), x.minutesToGo(i));
        }
        return d;
    }

    private static BigInteger with(BigInteger start, int... numbers) {
        BigInteger d = start;
        for (int number : numbers) {
            d = d.multiply(BigInteger.valueOf(31)).add(BigInteger.valueOf(number));
        }
        return d;
    }
}
