/** Promises 28 to 33: minutesUntilAsleep, asleepIn, bestToDeclare, guardsWanted, meanAlertness and digest. */
public final class WouldBeTest {
    private static final Class<IndexOutOfBoundsException> NO_SUCH = IndexOutOfBoundsException.class;
    private static final Class<IllegalArgumentException> BAD = IllegalArgumentException.class;

    private static final Due due = new Due();

    public static void main(String[] args) {
        minutesUntilAsleep();
        minutesUntilAsleepOfOneFarBehind();
        whatWouldBeIsLongerByNoise();
        asleepIn();
        bestToDeclare();
        bestToDeclareToATiredGuard();
        bestToDeclareOfOneWhoCannotSleep();
        guardsWanted();
        guardsWantedBesideFour();
        guardsWantedForAllOfAnHour();
        guardsWantedForThoseWhoWaitNow();
        meanAlertness();
        digest();
        nothingIsChanged();
        wrongNumbers();
        due.end("WouldBeTest");
    }

    private static SleepBorder withGuards(int guards) {
        SleepBorder x = new SleepBorder();
        for (int guard = 0; guard < guards; guard++) {
            x.addGuard();
        }
        return x;
    }

    private static void minutesUntilAsleep() {
        SleepBorder x = withGuards(0);
        x.arrive(0, 0, 0, 60);
        due.is("minutesUntilAsleep(0) without guards", -1, x.minutesUntilAsleep(0));
        x.addGuard();
        x.arrive(0, 2, 0, 4);
        x.arrive(4, 0, 0, 60);
        x.arrive(0, 0, 0, 1);
        for (int minute = 0; minute < 20; minute++) {
            due.is("minutesUntilAsleep(0) at " + minute, Math.max(8 - minute, 0), x.minutesUntilAsleep(0));
            due.is("minutesUntilAsleep(1) at " + minute, -1, x.minutesUntilAsleep(1));
            due.is("minutesUntilAsleep(2) at " + minute, -1, x.minutesUntilAsleep(2));
            due.is("minutesUntilAsleep(3) at " + minute, -1, x.minutesUntilAsleep(3));
            x.pass(1);
        }
    }

    private static void minutesUntilAsleepOfOneFarBehind() {
        SleepBorder x = withGuards(1);
        for (int i = 0; i < 19; i++) {
            x.arrive(0, 0, 0, 60);
        }
        x.arrive(0, 9, 0, 59);
        due.is("minutesUntilAsleep(18)", 62, x.minutesUntilAsleep(18));
        due.is("minutesUntilAsleep(19)", 74, x.minutesUntilAsleep(19));
        x.declare(0, 1);
        due.is("minutesUntilAsleep(19), a lullaby's minute too late", -1, x.minutesUntilAsleep(19));
    }

    private static void whatWouldBeIsLongerByNoise() {
        SleepBorder x = withGuards(1);
        x.arrive(0, 0, 9, 60);
        x.arrive(0, 0, 0, 60);
        // The second search begins in the fourth minute, with noise 9, and takes 4 minutes.
        due.is("minutesUntilAsleep(1)", 13, x.minutesUntilAsleep(1));
        due.is("asleepIn(12)", 1, x.asleepIn(12));
        due.is("asleepIn(13)", 2, x.asleepIn(13));
        x.arrive(0, 0, 0, 8);
        due.is("guardsWanted()", 1, x.guardsWanted());
        x.sing(2, 10);
        due.is("guardsWanted() with a longer lullaby", 0, x.guardsWanted());
        x.pass(3);
        due.is("minutesUntilAsleep(1), with noise already", 10, x.minutesUntilAsleep(1));
    }

    private static void asleepIn() {
        SleepBorder x = withGuards(1);
        x.arrive(0, 0, 0, 60);
        x.arrive(0, 0, 0, 60);
        x.arrive(9, 0, 0, 60);
        due.is("asleepIn(1)", 0, x.asleepIn(1));
        due.is("asleepIn(7)", 0, x.asleepIn(7));
        due.is("asleepIn(8)", 1, x.asleepIn(8));
        due.is("asleepIn(10)", 1, x.asleepIn(10));
        due.is("asleepIn(11)", 2, x.asleepIn(11));
        due.is("asleepIn(60)", 2, x.asleepIn(60));
        x.pass(8);
        due.is("asleepIn(1), one sleeps already", 1, x.asleepIn(1));
        due.is("asleepIn(3), one sleeps already", 2, x.asleepIn(3));
    }

    private static void bestToDeclare() {
        for (int dreams = 0; dreams <= 9; dreams++) {
            for (int declared = 0; declared <= 9; declared += 3) {
                SleepBorder x = withGuards(1);
                x.arrive(dreams, declared, 0, 60);
                due.is("bestToDeclare(0) of " + dreams, dreams, x.bestToDeclare(0));
            }
        }
    }

    private static void bestToDeclareToATiredGuard() {
        SleepBorder x = withGuards(1);
        for (int i = 0; i < 4; i++) {
            x.arrive(0, 0, 0, 60);
        }
        x.arrive(9, 0, 0, 60);
        // The fifth search ends with an alertness of 5: 4 hidden dreams are not found.
        due.is("bestToDeclare(4)", 5, x.bestToDeclare(4));
        x.declare(3, 9);
        due.is("bestToDeclare(3), with no dreams and 9 declared", 0, x.bestToDeclare(3));
        x.declare(3, 0);
        x.declare(4, 5);
        due.is("minutesUntilAsleep(4)", 25, x.minutesUntilAsleep(4));
        x.declare(4, 4);
        due.is("minutesUntilAsleep(4)", -1, x.minutesUntilAsleep(4));
    }

    private static void bestToDeclareOfOneWhoCannotSleep() {
        SleepBorder x = withGuards(0);
        x.arrive(0, 0, 0, 60);
        x.arrive(0, 0, 0, 3);
        due.is("bestToDeclare(0) without guards", -1, x.bestToDeclare(0));
        x.addGuard();
        due.is("bestToDeclare(0)", 0, x.bestToDeclare(0));
        due.is("bestToDeclare(1), who expires", -1, x.bestToDeclare(1));
        int[] gone = {1, 2, 5};
        for (int state = 1; state <= 3; state++) {
            x.pass(gone[state - 1]);
            due.is("stateOf(0)", state, x.stateOf(0));
            due.is("bestToDeclare(0) in state " + state, -1, x.bestToDeclare(0));
        }
        due.is("bestToDeclare(1), who expired", -1, x.bestToDeclare(1));
    }

    private static void guardsWanted() {
        SleepBorder x = withGuards(0);
        for (int came = 0; came <= 4; came++) {
            due.is("guardsWanted() for " + came, came, x.guardsWanted());
            x.arrive(0, 0, 0, 2);
        }
        due.is("guardsWanted() for 5", -1, x.guardsWanted());
        x.sing(4, 5);
        due.is("guardsWanted() for 5, of whom one can wait", 4, x.guardsWanted());
        x.sing(4, 4);
        due.is("guardsWanted() for 5, of whom one cannot wait", -1, x.guardsWanted());
        due.is("guards()", 0, x.guards());
    }

    private static void guardsWantedBesideFour() {
        SleepBorder x = withGuards(4);
        for (int came = 1; came <= 9; came++) {
            x.arrive(0, 0, 0, 2);
            int want = came <= 4 ? 0 : came <= 8 ? came - 4 : -1;
            due.is("guardsWanted() beside 4 for " + came, want, x.guardsWanted());
        }
        due.is("guards()", 4, x.guards());
    }

    private static void guardsWantedForAllOfAnHour() {
        SleepBorder x = withGuards(0);
        x.arrive(0, 0, 0, 60);
        due.is("guardsWanted() for a lullaby of 60", 1, x.guardsWanted());
        x.sing(0, 1);
        due.is("guardsWanted() for a lullaby of 1", -1, x.guardsWanted());
    }

    private static void guardsWantedForThoseWhoWaitNow() {
        SleepBorder x = withGuards(0);
        x.arrive(0, 0, 0, 1);
        x.pass(1);
        due.is("expired()", 1, x.expired());
        due.is("guardsWanted() as nobody waits", 0, x.guardsWanted());
        x.arrive(9, 0, 0, 9);
        due.is("guardsWanted() for one who will pay", 1, x.guardsWanted());
        x.addGuard();
        due.is("guardsWanted() with a guard for that one", 0, x.guardsWanted());
    }

    private static void meanAlertness() {
        SleepBorder x = withGuards(0);
        due.is("meanAlertness() without guards", 0.0, x.meanAlertness());
        x.addGuard();
        due.is("meanAlertness() of 9", 9.0, x.meanAlertness());
        x.addGuard();
        x.arrive(0, 0, 0, 60);
        x.pass(3);
        due.is("meanAlertness() of 8, 9", 8.5, x.meanAlertness());
        x.addGuard();
        due.is("meanAlertness() of 8, 9, 9", 26.0 / 3.0, x.meanAlertness());
    }

    private static void digest() {
        SleepBorder x = withGuards(0);
        due.is("digest() of a new border", digestOf(x), x.digest());
        for (int i = 0; i < 24; i++) {
            if (i % 7 == 2) {
                x.addGuard();
            }
            x.arrive(i % 10, i * 7 % 10, i * 3 % 10, 1 + i * 11 % 60);
            due.is("digest() of " + i, digestOf(x), x.digest());
            x.pass(1 + i % 4);
            due.is("digest() later", digestOf(x), x.digest());
        }
    }

    private static long digestOf(SleepBorder x) {
        long d = 2131;
        long[] border = {x.minute(), x.travellers(), x.waiting(), x.asleep(), x.sentBack(), x.expired(), x.paid(),
            x.noise(), x.nextInLine(), x.guards(), x.mostAlert(), x.asleepIn(30), x.guardsWanted()};
        for (long number : border) {
            d = d * 31 + number;
        }
        for (int i = 0; i < x.travellers(); i++) {
            long[] traveller = {x.stateOf(i), x.hiddenOf(i), x.lullabyOf(i), x.placeInLine(i), x.searchTime(i),
                x.minutesUntilAsleep(i)};
            for (long number : traveller) {
                d = d * 31 + number;
            }
        }
        for (int i = 0; i < x.guards(); i++) {
            long[] guard = {x.alertnessOf(i), x.searches(i), x.minutesToGo(i)};
            for (long number : guard) {
                d = d * 31 + number;
            }
        }
        return d;
    }

    private static void nothingIsChanged() {
        SleepBorder x = withGuards(2);
        for (int i = 0; i < 10; i++) {
            x.arrive(i, i / 2, 9 - i, 5 + i);
        }
        x.pass(7);
        long before = x.digest();
        int time = x.searchTime(9);
        due.is("asleepIn(60)", x.asleepIn(60), x.asleepIn(60));
        due.is("minutesUntilAsleep(9)", x.minutesUntilAsleep(9), x.minutesUntilAsleep(9));
        due.is("bestToDeclare(9)", x.bestToDeclare(9), x.bestToDeclare(9));
        due.is("guardsWanted()", x.guardsWanted(), x.guardsWanted());
        due.is("searchTime(9)", time, x.searchTime(9));
        due.is("digest()", before, x.digest());
        due.is("minute()", 7, x.minute());
        due.is("guards()", 2, x.guards());
    }

    private static void wrongNumbers() {
        SleepBorder x = withGuards(1);
        for (int came = 0; came < 3; came++) {
            int[] noSuch = {-1, came, 24, Integer.MIN_VALUE, Integer.MAX_VALUE};
            for (int wrong : noSuch) {
                due.refuses("minutesUntilAsleep(" + wrong + ")", NO_SUCH, () -> x.minutesUntilAsleep(wrong));
                due.refuses("bestToDeclare(" + wrong + ")", NO_SUCH, () -> x.bestToDeclare(wrong));
            }
            x.arrive(0, 0, 0, 60);
        }
        int[] notMinutes = {0, -1, 61, Integer.MIN_VALUE, Integer.MAX_VALUE};
        for (int wrong : notMinutes) {
            due.refuses("asleepIn(" + wrong + ")", BAD, () -> x.asleepIn(wrong));
        }
    }
}
