/** Promises 1 to 7: a new object, addGuard, arrive, declare, sing, wake and pass. */
public final class WhoComesTest {
    private static final Due due = new Due();

    public static void main(String[] args) {
        due.sentence("1: Creates a border without guards", WhoComesTest::aNewBorderHasNoGuards);
        due.sentence("1: and travellers", WhoComesTest::aNewBorderHasNoTravellers);
        due.sentence("1: at the minute 0", WhoComesTest::aNewBorderIsAtMinuteZero);
        due.sentence("1: Creates a border beside others", WhoComesTest::bordersAreApart);
        due.sentence("2: Returns the number of a new guard", WhoComesTest::addGuard);
        due.sentence("2: Throws IllegalStateException if there are 4", WhoComesTest::theFifthGuardIsRefused);
        due.sentence("3: Returns the number of this one", WhoComesTest::arrive);
        due.sentence("3: Throws IllegalArgumentException if dreams is not 0 to 9", WhoComesTest::arriveWithBadDreams);
        due.sentence("3: Throws IllegalArgumentException if declared is not 0 to 9",
            WhoComesTest::arriveWithBadDeclared);
        due.sentence("3: Throws IllegalArgumentException if snore is not 0 to 9", WhoComesTest::arriveWithBadSnore);
        due.sentence("3: Throws IllegalArgumentException if lullaby is not 1 to 60",
            WhoComesTest::arriveWithBadLullaby);
        due.sentence("3: 0 to 9 and 1 to 60 are taken", WhoComesTest::arriveAtTheEdges);
        due.sentence("3: Throws IllegalStateException if there are 24", WhoComesTest::theTwentyFifthIsRefused);
        due.sentence("3: if there are 24, wherever they are", WhoComesTest::theTwentyFifthIsRefusedForEver);
        due.sentence("4: how many are declared from now on", WhoComesTest::declare);
        due.sentence("4: Returns how many before", WhoComesTest::declareTellsHowManyBefore);
        due.sentence("4: Throws IndexOutOfBoundsException if there is no such traveller",
            WhoComesTest::declareOfNoSuchTraveller);
        due.sentence("4: Throws IllegalArgumentException if declared is not 0 to 9",
            WhoComesTest::declareOfABadNumber);
        due.sentence("4: Throws IllegalStateException if this one does not wait",
            WhoComesTest::declareOfOneWhoDoesNotWait);
        due.sentence("5: Sings a new lullaby in the place of the old one", WhoComesTest::sing);
        due.sentence("5: Returns how many were left", WhoComesTest::singTellsHowManyWereLeft);
        due.sentence("5: Throws IndexOutOfBoundsException if there is no such traveller",
            WhoComesTest::singToNoSuchTraveller);
        due.sentence("5: Throws IllegalArgumentException if minutes is not 1 to 60", WhoComesTest::singForBadMinutes);
        due.sentence("5: Throws IllegalStateException if this one does not wait",
            WhoComesTest::singToOneWhoDoesNotWait);
        due.sentence("6: the alertness is 9", WhoComesTest::wake);
        due.sentence("6: Returns the one before", WhoComesTest::wakeTellsTheOneBefore);
        due.sentence("6: Wakes a guard: whom this one searches, and how long, stays", WhoComesTest::wakeInASearch);
        due.sentence("6: Throws IndexOutOfBoundsException if there is no such guard", WhoComesTest::wakeOfNoSuchGuard);
        due.sentence("7: Lets minutes go by", WhoComesTest::pass);
        due.sentence("7: Returns how many fall asleep in them", WhoComesTest::passTellsHowManyFallAsleep);
        due.sentence("7: in them: none, and all there may be", WhoComesTest::passTellsOfNoneAndAll);
        due.sentence("7: Throws IllegalArgumentException if minutes is not 1 to 60", WhoComesTest::passOfBadMinutes);
        due.end("WhoComesTest");
    }

    private static void aNewBorderHasNoGuards() {
        SleepBorder x = new SleepBorder();
        due.is("guards()", 0, x.guards());
        due.is("mostAlert()", -1, x.mostAlert());
        due.is("meanAlertness()", 0.0, x.meanAlertness());
        due.refuses("alertnessOf(0)", Borders.NO_SUCH, () -> x.alertnessOf(0));
    }

    private static void aNewBorderHasNoTravellers() {
        SleepBorder x = new SleepBorder();
        due.is("travellers()", 0, x.travellers());
        due.is("waiting()", 0, x.waiting());
        due.is("asleep()", 0, x.asleep());
        due.is("sentBack()", 0, x.sentBack());
        due.is("expired()", 0, x.expired());
        due.is("paid()", 0, x.paid());
        due.is("noise()", 0, x.noise());
        due.is("nextInLine()", -1, x.nextInLine());
        due.is("asleepIn(1)", 0, x.asleepIn(1));
        due.is("asleepIn(60)", 0, x.asleepIn(60));
        due.is("guardsWanted()", 0, x.guardsWanted());
        due.refuses("stateOf(0)", Borders.NO_SUCH, () -> x.stateOf(0));
    }

    private static void aNewBorderIsAtMinuteZero() {
        due.is("minute()", 0, new SleepBorder().minute());
    }

    private static void bordersAreApart() {
        String empty = Borders.seen(new SleepBorder());
        SleepBorder busy = Borders.busy();
        String before = Borders.seen(busy);
        SleepBorder other = new SleepBorder();
        due.is("a new border beside a busy one", empty, Borders.seen(other));
        other.addGuard();
        other.arrive(9, 0, 9, 60);
        other.pass(60);
        due.is("the busy one beside another", before, Borders.seen(busy));
    }

    private static void addGuard() {
        SleepBorder x = new SleepBorder();
        for (int guard = 0; guard < 4; guard++) {
            due.is("addGuard()", guard, x.addGuard());
            due.is("guards()", guard + 1, x.guards());
        }
    }

    private static void theFifthGuardIsRefused() {
        SleepBorder x = Borders.withGuards(3);
        due.is("the fourth addGuard()", 3, x.addGuard());
        due.refuses("the fifth addGuard()", Borders.NOT_NOW, x::addGuard);
        due.refuses("the sixth addGuard()", Borders.NOT_NOW, x::addGuard);
        due.is("guards()", 4, x.guards());
    }

    private static void arrive() {
        SleepBorder x = new SleepBorder();
        due.is("arrive(7, 3, 2, 60)", 0, x.arrive(7, 3, 2, 60));
        due.is("arrive(5, 1, 4, 20)", 1, x.arrive(5, 1, 4, 20));
        due.is("travellers()", 2, x.travellers());
        due.is("stateOf(0)", 0, x.stateOf(0));
        due.is("hiddenOf(0)", 4, x.hiddenOf(0));
        due.is("searchTime(0)", 5, x.searchTime(0));
        due.is("lullabyOf(0)", 60, x.lullabyOf(0));
        due.is("hiddenOf(1)", 4, x.hiddenOf(1));
        due.is("searchTime(1)", 3, x.searchTime(1));
        due.is("lullabyOf(1)", 20, x.lullabyOf(1));
        x.pass(20);
        due.is("arrive behind one sent back", 2, x.arrive(5, 1, 4, 20));
    }

    private static void arriveWithBadDreams() {
        SleepBorder x = new SleepBorder();
        for (int wrong : Borders.notDigits()) {
            due.refuses("arrive(" + wrong + ", 0, 0, 1)", Borders.BAD, () -> x.arrive(wrong, 0, 0, 1));
            due.refuses("arrive(" + wrong + ", 9, 9, 60)", Borders.BAD, () -> x.arrive(wrong, 9, 9, 60));
        }
        due.is("travellers()", 0, x.travellers());
    }

    private static void arriveWithBadDeclared() {
        SleepBorder x = new SleepBorder();
        for (int wrong : Borders.notDigits()) {
            due.refuses("arrive(0, " + wrong + ", 0, 1)", Borders.BAD, () -> x.arrive(0, wrong, 0, 1));
            due.refuses("arrive(9, " + wrong + ", 9, 60)", Borders.BAD, () -> x.arrive(9, wrong, 9, 60));
        }
        due.is("travellers()", 0, x.travellers());
    }

    private static void arriveWithBadSnore() {
        SleepBorder x = new SleepBorder();
        for (int wrong : Borders.notDigits()) {
            due.refuses("arrive(0, 0, " + wrong + ", 1)", Borders.BAD, () -> x.arrive(0, 0, wrong, 1));
            due.refuses("arrive(9, 9, " + wrong + ", 60)", Borders.BAD, () -> x.arrive(9, 9, wrong, 60));
        }
        due.is("travellers()", 0, x.travellers());
    }

    private static void arriveWithBadLullaby() {
        SleepBorder x = new SleepBorder();
        for (int wrong : Borders.notMinutes()) {
            due.refuses("arrive(0, 0, 0, " + wrong + ")", Borders.BAD, () -> x.arrive(0, 0, 0, wrong));
            due.refuses("arrive(9, 9, 9, " + wrong + ")", Borders.BAD, () -> x.arrive(9, 9, 9, wrong));
        }
        due.is("travellers()", 0, x.travellers());
    }

    private static void arriveAtTheEdges() {
        SleepBorder x = new SleepBorder();
        due.is("arrive(0, 0, 0, 1)", 0, x.arrive(0, 0, 0, 1));
        due.is("arrive(9, 0, 0, 1)", 1, x.arrive(9, 0, 0, 1));
        due.is("arrive(0, 9, 0, 1)", 2, x.arrive(0, 9, 0, 1));
        due.is("arrive(0, 0, 9, 1)", 3, x.arrive(0, 0, 9, 1));
        due.is("arrive(0, 0, 0, 60)", 4, x.arrive(0, 0, 0, 60));
        due.is("arrive(9, 9, 9, 60)", 5, x.arrive(9, 9, 9, 60));
    }

    private static void theTwentyFifthIsRefused() {
        SleepBorder x = new SleepBorder();
        Borders.plainOnes(x, 23);
        due.is("the 24th", 23, x.arrive(9, 9, 9, 60));
        due.refuses("the 25th", Borders.NOT_NOW, () -> x.arrive(0, 0, 0, 1));
        due.refuses("the 26th", Borders.NOT_NOW, () -> x.arrive(9, 9, 9, 60));
        due.is("travellers()", 24, x.travellers());
    }

    private static void theTwentyFifthIsRefusedForEver() {
        SleepBorder x = Borders.withGuards(4);
        Borders.plainOnes(x, 12);
        for (int i = 0; i < 12; i++) {
            x.arrive(0, 0, 0, 1);
        }
        x.pass(60);
        due.is("asleep()", 12, x.asleep());
        due.is("sentBack()", 12, x.sentBack());
        due.refuses("the 25th, as none of 24 waits", Borders.NOT_NOW, () -> x.arrive(0, 0, 0, 60));
    }

    private static void declare() {
        SleepBorder x = Borders.withGuards(1);
        x.arrive(6, 2, 0, 30);
        x.arrive(6, 2, 0, 30);
        x.declare(0, 5);
        due.is("hiddenOf(0)", 1, x.hiddenOf(0));
        due.is("searchTime(0)", 7, x.searchTime(0));
        due.is("hiddenOf(1), another", 4, x.hiddenOf(1));
        due.is("searchTime(1), another", 4, x.searchTime(1));
        x.declare(0, 6);
        x.pass(1);
        due.is("minutesToGo(0)", 8, x.minutesToGo(0));
        x.pass(8);
        due.is("stateOf(0)", 2, x.stateOf(0));
    }

    private static void declareTellsHowManyBefore() {
        SleepBorder x = new SleepBorder();
        x.arrive(6, 2, 0, 30);
        due.is("declare(0, 9)", 2, x.declare(0, 9));
        due.is("declare(0, 0)", 9, x.declare(0, 0));
        due.is("declare(0, 0)", 0, x.declare(0, 0));
        due.is("declare(0, 4)", 0, x.declare(0, 4));
        due.is("declare(0, 4)", 4, x.declare(0, 4));
    }

    private static void declareOfNoSuchTraveller() {
        SleepBorder x = new SleepBorder();
        for (int came = 0; came <= 24; came += 8) {
            for (int wrong : Borders.notOf(came)) {
                due.refuses("declare(" + wrong + ", 5) of " + came, Borders.NO_SUCH, () -> x.declare(wrong, 5));
            }
            Borders.plainOnes(x, came < 24 ? 8 : 0);
        }
        due.is("declare(0, 5)", 0, x.declare(0, 5));
        due.is("declare(23, 5)", 0, x.declare(23, 5));
    }

    private static void declareOfABadNumber() {
        SleepBorder x = new SleepBorder();
        x.arrive(6, 2, 0, 30);
        for (int wrong : Borders.notDigits()) {
            due.refuses("declare(0, " + wrong + ")", Borders.BAD, () -> x.declare(0, wrong));
        }
        due.is("declare(0, 0)", 2, x.declare(0, 0));
        due.is("declare(0, 9)", 0, x.declare(0, 9));
        due.is("hiddenOf(0)", 0, x.hiddenOf(0));
    }

    private static void declareOfOneWhoDoesNotWait() {
        due.is("declare(0, 3) of one who waits", 7, Borders.firstIn(Borders.WAITING).declare(0, 3));
        for (int state = Borders.SEARCHED; state <= Borders.EXPIRED; state++) {
            SleepBorder x = Borders.firstIn(state);
            due.refuses("declare(0, 3) in state " + state, Borders.NOT_NOW, () -> x.declare(0, 3));
            due.refuses("declare(0, 7), the same, in state " + state, Borders.NOT_NOW, () -> x.declare(0, 7));
        }
    }

    private static void sing() {
        SleepBorder x = new SleepBorder();
        x.arrive(6, 2, 0, 3);
        x.arrive(6, 2, 0, 30);
        x.pass(2);
        x.sing(0, 60);
        due.is("lullabyOf(0)", 60, x.lullabyOf(0));
        due.is("lullabyOf(1), another", 28, x.lullabyOf(1));
        x.sing(1, 1);
        due.is("lullabyOf(1), shorter", 1, x.lullabyOf(1));
        x.pass(1);
        due.is("stateOf(0)", 0, x.stateOf(0));
        due.is("stateOf(1)", 4, x.stateOf(1));
    }

    private static void singTellsHowManyWereLeft() {
        SleepBorder x = new SleepBorder();
        x.arrive(6, 2, 0, 60);
        due.is("sing(0, 60)", 60, x.sing(0, 60));
        x.pass(59);
        due.is("sing(0, 30) with a minute left", 1, x.sing(0, 30));
        x.pass(4);
        due.is("sing(0, 1)", 26, x.sing(0, 1));
        due.is("sing(0, 2)", 1, x.sing(0, 2));
    }

    private static void singToNoSuchTraveller() {
        SleepBorder x = new SleepBorder();
        for (int came = 0; came <= 24; came += 8) {
            for (int wrong : Borders.notOf(came)) {
                due.refuses("sing(" + wrong + ", 5) of " + came, Borders.NO_SUCH, () -> x.sing(wrong, 5));
            }
            Borders.plainOnes(x, came < 24 ? 8 : 0);
        }
        due.is("sing(0, 5)", 60, x.sing(0, 5));
        due.is("sing(23, 5)", 60, x.sing(23, 5));
    }

    private static void singForBadMinutes() {
        SleepBorder x = new SleepBorder();
        x.arrive(6, 2, 0, 30);
        for (int wrong : Borders.notMinutes()) {
            due.refuses("sing(0, " + wrong + ")", Borders.BAD, () -> x.sing(0, wrong));
        }
        due.is("sing(0, 1)", 30, x.sing(0, 1));
        due.is("sing(0, 60)", 1, x.sing(0, 60));
        due.is("lullabyOf(0)", 60, x.lullabyOf(0));
    }

    private static void singToOneWhoDoesNotWait() {
        due.is("sing(0, 33) to one who waits", 30, Borders.firstIn(Borders.WAITING).sing(0, 33));
        for (int state = Borders.SEARCHED; state <= Borders.EXPIRED; state++) {
            SleepBorder x = Borders.firstIn(state);
            due.refuses("sing(0, 33) in state " + state, Borders.NOT_NOW, () -> x.sing(0, 33));
        }
    }

    private static void wake() {
        SleepBorder x = Borders.withGuards(2);
        Borders.plainOnes(x, 6);
        x.pass(9);
        due.is("alertnessOf(0), tired", 6, x.alertnessOf(0));
        due.is("alertnessOf(1), tired", 6, x.alertnessOf(1));
        x.wake(1);
        due.is("alertnessOf(0), not woken", 6, x.alertnessOf(0));
        due.is("alertnessOf(1), woken", 9, x.alertnessOf(1));
    }

    private static void wakeTellsTheOneBefore() {
        SleepBorder x = Borders.withGuards(1);
        due.is("wake(0) of 9", 9, x.wake(0));
        Borders.plainOnes(x, 10);
        x.pass(3);
        due.is("wake(0) of 8", 8, x.wake(0));
        due.is("wake(0) again", 9, x.wake(0));
        x.pass(27);
        due.is("wake(0) of 0", 0, x.wake(0));
        due.is("alertnessOf(0)", 9, x.alertnessOf(0));
    }

    private static void wakeInASearch() {
        SleepBorder x = Borders.withGuards(1);
        x.arrive(0, 0, 0, 60);
        x.arrive(0, 9, 0, 60);
        x.pass(5);
        due.is("wake(0)", 8, x.wake(0));
        due.is("searches(0)", 1, x.searches(0));
        due.is("minutesToGo(0)", 10, x.minutesToGo(0));
        due.is("stateOf(1)", 1, x.stateOf(1));
    }

    private static void wakeOfNoSuchGuard() {
        SleepBorder x = new SleepBorder();
        x.arrive(0, 0, 0, 60);
        for (int guards = 0; guards <= 4; guards++) {
            for (int wrong : Borders.notOf(guards)) {
                due.refuses("wake(" + wrong + ") of " + guards, Borders.NO_SUCH, () -> x.wake(wrong));
            }
            if (guards < 4) {
                x.addGuard();
            }
        }
        due.is("wake(0)", 9, x.wake(0));
        due.is("wake(3)", 9, x.wake(3));
    }

    private static void pass() {
        SleepBorder once = Borders.full();
        SleepBorder often = Borders.full();
        int slept = 0;
        for (int minute = 0; minute < 60; minute++) {
            slept += often.pass(1);
        }
        due.is("pass(60)", slept, once.pass(60));
        due.is("all that is seen", Borders.seen(often), Borders.seen(once));
        due.is("minute()", 69, once.minute());
    }

    private static void passTellsHowManyFallAsleep() {
        SleepBorder x = Borders.withGuards(2);
        x.arrive(0, 0, 3, 60);
        x.arrive(0, 1, 3, 60);
        due.is("pass(7), a minute too few", 0, x.pass(7));
        due.is("pass(1), one sleeps", 1, x.pass(1));
        due.is("pass(1), another sleeps", 1, x.pass(1));
        due.is("pass(1), both slept before", 0, x.pass(1));
        SleepBorder y = Borders.withGuards(2);
        y.arrive(0, 0, 3, 60);
        y.arrive(0, 1, 3, 60);
        due.is("pass(9), both sleep", 2, y.pass(9));
        SleepBorder z = Borders.withGuards(1);
        z.arrive(9, 0, 0, 60);
        z.arrive(0, 0, 0, 2);
        due.is("pass(60), both are sent back", 0, z.pass(60));
    }

    private static void passTellsOfNoneAndAll() {
        due.is("pass(60) with nobody", 0, new SleepBorder().pass(60));
        SleepBorder x = Borders.withGuards(4);
        Borders.plainOnes(x, 24);
        due.is("pass(60) with 24", 24, x.pass(60));
        due.is("pass(60) as 24 sleep", 0, x.pass(60));
    }

    private static void passOfBadMinutes() {
        SleepBorder x = new SleepBorder();
        for (int wrong : Borders.notMinutes()) {
            due.refuses("pass(" + wrong + ")", Borders.BAD, () -> x.pass(wrong));
        }
        due.is("pass(1)", 0, x.pass(1));
        due.is("minute()", 1, x.minute());
        due.is("pass(60)", 0, x.pass(60));
        due.is("minute()", 61, x.minute());
    }
}
