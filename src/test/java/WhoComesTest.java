/** Promises 1 to 7: a new object, addGuard, arrive, declare, sing, wake and pass. */
public final class WhoComesTest {
    private static final Class<IndexOutOfBoundsException> NO_SUCH = IndexOutOfBoundsException.class;
    private static final Class<IllegalArgumentException> BAD = IllegalArgumentException.class;
    private static final Class<IllegalStateException> NOT_NOW = IllegalStateException.class;

    private static final Due due = new Due();

    public static void main(String[] args) {
        aNewObject();
        addGuard();
        arrive();
        arriveRefusesWrongNumbers();
        arriveRefusesTheTwentyFifth();
        declare();
        sing();
        declareAndSingOnlyToOneWhoWaits();
        wake();
        pass();
        passOfSixtyIsSixtyOfOne();
        due.end("WhoComesTest");
    }

    private static void aNewObject() {
        SleepBorder x = new SleepBorder();
        due.is("new minute()", 0, x.minute());
        due.is("new travellers()", 0, x.travellers());
        due.is("new waiting()", 0, x.waiting());
        due.is("new asleep()", 0, x.asleep());
        due.is("new sentBack()", 0, x.sentBack());
        due.is("new expired()", 0, x.expired());
        due.is("new paid()", 0, x.paid());
        due.is("new noise()", 0, x.noise());
        due.is("new nextInLine()", -1, x.nextInLine());
        due.is("new guards()", 0, x.guards());
        due.is("new mostAlert()", -1, x.mostAlert());
        due.is("new asleepIn(60)", 0, x.asleepIn(60));
        due.is("new guardsWanted()", 0, x.guardsWanted());
        due.is("new meanAlertness()", 0.0, x.meanAlertness());
    }

    private static void addGuard() {
        SleepBorder x = new SleepBorder();
        for (int guard = 0; guard < 4; guard++) {
            due.is("addGuard()", guard, x.addGuard());
            due.is("guards()", guard + 1, x.guards());
            due.is("alertnessOf a new guard", 9, x.alertnessOf(guard));
            due.is("searches of a new guard", -1, x.searches(guard));
            due.is("minutesToGo of a new guard", 0, x.minutesToGo(guard));
        }
        due.refuses("the fifth addGuard()", NOT_NOW, x::addGuard);
        due.is("guards() behind the fifth", 4, x.guards());
    }

    private static void arrive() {
        SleepBorder x = new SleepBorder();
        due.is("arrive(7, 3, 2, 60)", 0, x.arrive(7, 3, 2, 60));
        due.is("arrive(0, 0, 0, 1)", 1, x.arrive(0, 0, 0, 1));
        due.is("arrive(9, 9, 9, 60)", 2, x.arrive(9, 9, 9, 60));
        due.is("travellers()", 3, x.travellers());
        due.is("stateOf(0)", 0, x.stateOf(0));
        due.is("hiddenOf(0)", 4, x.hiddenOf(0));
        due.is("lullabyOf(0)", 60, x.lullabyOf(0));
        due.is("searchTime(0)", 5, x.searchTime(0));
        due.is("lullabyOf(1)", 1, x.lullabyOf(1));
        due.is("searchTime(2)", 11, x.searchTime(2));
    }

    private static void arriveRefusesWrongNumbers() {
        SleepBorder x = new SleepBorder();
        int[] notDigits = {-1, 10, Integer.MIN_VALUE, Integer.MAX_VALUE};
        for (int wrong : notDigits) {
            due.refuses("arrive dreams " + wrong, BAD, () -> x.arrive(wrong, 0, 0, 1));
            due.refuses("arrive declared " + wrong, BAD, () -> x.arrive(0, wrong, 0, 1));
            due.refuses("arrive snore " + wrong, BAD, () -> x.arrive(0, 0, wrong, 1));
        }
        int[] notMinutes = {0, -1, 61, Integer.MIN_VALUE, Integer.MAX_VALUE};
        for (int wrong : notMinutes) {
            due.refuses("arrive lullaby " + wrong, BAD, () -> x.arrive(0, 0, 0, wrong));
        }
        due.is("travellers() behind refusals", 0, x.travellers());
    }

    private static void arriveRefusesTheTwentyFifth() {
        SleepBorder x = new SleepBorder();
        for (int traveller = 0; traveller < 24; traveller++) {
            due.is("arrive", traveller, x.arrive(1, 1, 1, 30));
        }
        due.refuses("the 25th", NOT_NOW, () -> x.arrive(1, 1, 1, 30));
        due.refuses("the 25th, and a wrong number", BAD, () -> x.arrive(10, 1, 1, 30));
        due.refuses("the 25th, and a wrong lullaby", BAD, () -> x.arrive(1, 1, 1, 61));
        due.is("travellers()", 24, x.travellers());
        x.pass(60);
        due.refuses("the 25th, though nobody waits", NOT_NOW, () -> x.arrive(1, 1, 1, 30));
    }

    private static void declare() {
        SleepBorder x = new SleepBorder();
        x.arrive(6, 2, 0, 30);
        due.is("declare(0, 5)", 2, x.declare(0, 5));
        due.is("hiddenOf(0)", 1, x.hiddenOf(0));
        due.is("searchTime(0)", 7, x.searchTime(0));
        due.is("declare(0, 9)", 5, x.declare(0, 9));
        due.is("declare(0, 0)", 9, x.declare(0, 0));
        due.refuses("declare(0, -1)", BAD, () -> x.declare(0, -1));
        due.refuses("declare(0, 10)", BAD, () -> x.declare(0, 10));
        due.refuses("declare(1, 0)", NO_SUCH, () -> x.declare(1, 0));
        due.refuses("declare(-1, 0)", NO_SUCH, () -> x.declare(-1, 0));
        due.refuses("declare(1, 10)", NO_SUCH, () -> x.declare(1, 10));
        due.refuses("declare(MIN, 0)", NO_SUCH, () -> x.declare(Integer.MIN_VALUE, 0));
        due.refuses("declare(MAX, 0)", NO_SUCH, () -> x.declare(Integer.MAX_VALUE, 0));
        due.is("hiddenOf(0) behind refusals", 6, x.hiddenOf(0));
    }

    private static void sing() {
        SleepBorder x = new SleepBorder();
        x.arrive(6, 2, 0, 30);
        x.pass(4);
        due.is("sing(0, 60)", 26, x.sing(0, 60));
        due.is("lullabyOf(0)", 60, x.lullabyOf(0));
        due.is("sing(0, 1)", 60, x.sing(0, 1));
        due.refuses("sing(0, 0)", BAD, () -> x.sing(0, 0));
        due.refuses("sing(0, 61)", BAD, () -> x.sing(0, 61));
        due.refuses("sing(1, 5)", NO_SUCH, () -> x.sing(1, 5));
        due.refuses("sing(-1, 5)", NO_SUCH, () -> x.sing(-1, 5));
        due.refuses("sing(1, 0)", NO_SUCH, () -> x.sing(1, 0));
        due.is("lullabyOf(0) behind refusals", 1, x.lullabyOf(0));
    }

    private static void declareAndSingOnlyToOneWhoWaits() {
        SleepBorder x = new SleepBorder();
        x.addGuard();
        x.arrive(0, 0, 0, 9);
        x.arrive(0, 0, 0, 1);
        // One is searched, in transit and asleep, the other sent back, in these minutes.
        int[] gone = {1, 2, 5};
        for (int state = 1; state <= 3; state++) {
            x.pass(gone[state - 1]);
            due.is("stateOf(0)", state, x.stateOf(0));
            due.is("stateOf(1)", 4, x.stateOf(1));
            for (int traveller = 0; traveller < 2; traveller++) {
                int one = traveller;
                due.refuses("declare to one in state " + state, NOT_NOW, () -> x.declare(one, 1));
                due.refuses("sing to one in state " + state, NOT_NOW, () -> x.sing(one, 1));
                due.refuses("declare 10 in state " + state, BAD, () -> x.declare(one, 10));
                due.refuses("sing 61 in state " + state, BAD, () -> x.sing(one, 61));
            }
            due.is("searchTime(0) unchanged", 2, x.searchTime(0));
            due.is("lullabyOf(0) unchanged", 8, x.lullabyOf(0));
        }
    }

    private static void wake() {
        SleepBorder x = new SleepBorder();
        due.refuses("wake(0) without guards", NO_SUCH, () -> x.wake(0));
        x.addGuard();
        x.addGuard();
        due.is("wake(0)", 9, x.wake(0));
        x.arrive(0, 0, 0, 60);
        x.arrive(0, 0, 0, 60);
        x.arrive(0, 0, 0, 60);
        x.pass(4);
        due.is("wake(0) while it searches", 8, x.wake(0));
        due.is("alertnessOf(0)", 9, x.alertnessOf(0));
        due.is("searches(0) goes on", 2, x.searches(0));
        due.is("minutesToGo(0) goes on", 2, x.minutesToGo(0));
        due.is("alertnessOf(1) stays", 9, x.alertnessOf(1));
        due.refuses("wake(-1)", NO_SUCH, () -> x.wake(-1));
        due.refuses("wake(2)", NO_SUCH, () -> x.wake(2));
        due.refuses("wake(4)", NO_SUCH, () -> x.wake(4));
        due.refuses("wake(MAX)", NO_SUCH, () -> x.wake(Integer.MAX_VALUE));
    }

    private static void pass() {
        SleepBorder x = new SleepBorder();
        x.addGuard();
        x.addGuard();
        x.arrive(0, 0, 3, 60);
        x.arrive(0, 1, 3, 60);
        due.is("pass(1)", 0, x.pass(1));
        due.is("minute()", 1, x.minute());
        due.is("pass(6)", 0, x.pass(6));
        due.is("pass(1), one sleeps", 1, x.pass(1));
        due.is("pass(1), another sleeps", 1, x.pass(1));
        due.is("pass(60), nobody is left", 0, x.pass(60));
        due.is("minute()", 69, x.minute());
        due.refuses("pass(0)", BAD, () -> x.pass(0));
        due.refuses("pass(-1)", BAD, () -> x.pass(-1));
        due.refuses("pass(61)", BAD, () -> x.pass(61));
        due.refuses("pass(MIN)", BAD, () -> x.pass(Integer.MIN_VALUE));
        due.refuses("pass(MAX)", BAD, () -> x.pass(Integer.MAX_VALUE));
        due.is("minute() behind refusals", 69, x.minute());
    }

    private static void passOfSixtyIsSixtyOfOne() {
        SleepBorder once = new SleepBorder();
        SleepBorder often = new SleepBorder();
        SleepBorder[] both = {once, often};
        for (SleepBorder x : both) {
            x.addGuard();
            x.addGuard();
            for (int i = 0; i < 20; i++) {
                x.arrive(i % 10, i * 3 % 10, i * 7 % 10, 10 + i);
            }
        }
        int slept = 0;
        for (int i = 0; i < 60; i++) {
            slept += often.pass(1);
        }
        due.is("pass(60)", slept, once.pass(60));
        due.is("digest()", often.digest(), once.digest());
    }
}
