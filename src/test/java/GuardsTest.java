/** Promises 22 to 27: guards, alertnessOf, searches, minutesToGo, wouldFind and mostAlert. */
public final class GuardsTest {
    /** A question about a guard. */
    private interface Question {
        Object answer(SleepBorder x, int guard);
    }

    private static final Due due = new Due();

    public static void main(String[] args) {
        due.sentence("22: Returns how many guards there are", GuardsTest::guards);
        due.sentence("23: Returns the alertness", GuardsTest::alertnessOf);
        due.sentence("23: Throws IndexOutOfBoundsException if there is no such guard",
            () -> refusesNoSuchGuard(SleepBorder::alertnessOf));
        due.sentence("24: Returns who is searched by this one", GuardsTest::searches);
        due.sentence("24: -1 for nobody", GuardsTest::searchesNobody);
        due.sentence("24: Throws IndexOutOfBoundsException if there is no such guard",
            () -> refusesNoSuchGuard(SleepBorder::searches));
        due.sentence("25: Returns how many minutes the search goes on", GuardsTest::minutesToGo);
        due.sentence("25: 0 if this one searches nobody", GuardsTest::minutesToGoOfNoSearch);
        due.sentence("25: Throws IndexOutOfBoundsException if there is no such guard",
            () -> refusesNoSuchGuard(SleepBorder::minutesToGo));
        due.sentence("26: Returns whether this guard would find hidden dreams of that one",
            GuardsTest::wouldFindFromTenOn);
        due.sentence("26: this guard, that one", GuardsTest::wouldFindOfThisGuardAndThatOne);
        due.sentence("26: now", GuardsTest::wouldFindNow);
        due.sentence("26: in every state of that one", GuardsTest::wouldFindInEveryState);
        due.sentence("26: no hidden dreams", GuardsTest::wouldFindNothing);
        due.sentence("26: Throws IndexOutOfBoundsException if there is no such guard",
            () -> refusesNoSuchGuard((x, guard) -> x.wouldFind(guard, 0)));
        due.sentence("26: Throws IndexOutOfBoundsException if there is no such traveller",
            GuardsTest::wouldFindOfNoSuchTraveller);
        due.sentence("27: Returns the guard with the greatest alertness", GuardsTest::mostAlert);
        due.sentence("27: of several the smallest number", GuardsTest::mostAlertOfSeveral);
        due.sentence("27: -1 without guards", GuardsTest::mostAlertWithoutGuards);
        due.end("GuardsTest");
    }

    private static void refusesNoSuchGuard(Question question) {
        SleepBorder x = new SleepBorder();
        Borders.plainOnes(x, 24);
        for (int guards = 0; guards <= 4; guards++) {
            for (int wrong : Borders.notOf(guards)) {
                due.refuses(wrong + " of " + guards, Borders.NO_SUCH, () -> question.answer(x, wrong));
            }
            if (guards < 4) {
                x.addGuard();
            }
        }
        String first = String.valueOf(Due.answerOf(() -> question.answer(x, 0)));
        String last = String.valueOf(Due.answerOf(() -> question.answer(x, 3)));
        due.is("0 of 4 is answered", false, first.startsWith("throws"));
        due.is("3 of 4 is answered", false, last.startsWith("throws"));
    }

    private static void guards() {
        SleepBorder x = new SleepBorder();
        Borders.plainOnes(x, 5);
        for (int guards = 0; guards < 4; guards++) {
            due.is("guards()", guards, x.guards());
            x.addGuard();
        }
        due.is("guards()", 4, x.guards());
        x.guardsWanted();
        x.pass(1);
        due.is("guards() at work", 4, x.guards());
    }

    private static void alertnessOf() {
        SleepBorder x = Borders.withGuards(2);
        x.arrive(9, 1, 0, 60);
        x.arrive(0, 0, 0, 60);
        x.arrive(0, 0, 0, 60);
        int[] first = {9, 9, 9, 9, 8, 9, 9};
        int[] second = {9, 9, 9, 8, 8, 8, 7};
        for (int minute = 0; minute < first.length; minute++) {
            due.is("alertnessOf(0) at " + minute, first[minute], x.alertnessOf(0));
            due.is("alertnessOf(1) at " + minute, second[minute], x.alertnessOf(1));
            x.pass(1);
        }
    }

    private static void searches() {
        SleepBorder x = Borders.withGuards(2);
        x.arrive(9, 1, 0, 60);
        x.arrive(0, 0, 0, 60);
        x.arrive(0, 0, 0, 60);
        int[] first = {-1, 0, 0, 0, -1, -1, -1};
        int[] second = {-1, 1, 1, -1, 2, 2, -1};
        for (int minute = 0; minute < first.length; minute++) {
            due.is("searches(0) at " + minute, first[minute], x.searches(0));
            due.is("searches(1) at " + minute, second[minute], x.searches(1));
            x.pass(1);
        }
    }

    private static void searchesNobody() {
        SleepBorder x = Borders.withGuards(1);
        due.is("searches(0) at first", -1, x.searches(0));
        x.pass(1);
        due.is("searches(0) as nobody came", -1, x.searches(0));
        x.arrive(9, 0, 0, 60);
        due.is("searches(0) as one comes", -1, x.searches(0));
        x.pass(3);
        due.is("searches(0) behind a find", -1, x.searches(0));
        x.arrive(0, 0, 0, 60);
        x.pass(3);
        due.is("searches(0) as one is let through", -1, x.searches(0));
    }

    private static void minutesToGo() {
        SleepBorder x = Borders.withGuards(2);
        x.arrive(9, 1, 0, 60);
        x.arrive(0, 0, 0, 60);
        x.arrive(0, 0, 0, 60);
        int[] first = {0, 3, 2, 1, 0, 0, 0};
        int[] second = {0, 2, 1, 0, 2, 1, 0};
        for (int minute = 0; minute < first.length; minute++) {
            due.is("minutesToGo(0) at " + minute, first[minute], x.minutesToGo(0));
            due.is("minutesToGo(1) at " + minute, second[minute], x.minutesToGo(1));
            x.pass(1);
        }
    }

    private static void minutesToGoOfNoSearch() {
        SleepBorder x = Borders.withGuards(1);
        due.is("minutesToGo(0) at first", 0, x.minutesToGo(0));
        x.pass(1);
        due.is("minutesToGo(0) as nobody came", 0, x.minutesToGo(0));
        x.arrive(9, 0, 0, 60);
        due.is("minutesToGo(0) as one comes", 0, x.minutesToGo(0));
        x.pass(3);
        due.is("minutesToGo(0) behind a find", 0, x.minutesToGo(0));
        x.pass(1);
        due.is("minutesToGo(0) later", 0, x.minutesToGo(0));
    }

    private static void wouldFindFromTenOn() {
        SleepBorder x = Borders.withGuards(1);
        for (int dreams = 0; dreams <= 9; dreams++) {
            x.arrive(dreams, 0, 0, 60);
        }
        for (int i = 10; i < 20; i++) {
            x.arrive(0, 0, 0, 60);
        }
        for (int alertness = 9; alertness >= 0; alertness--) {
            due.is("alertnessOf(0)", alertness, x.alertnessOf(0));
            for (int hidden = 1; hidden <= 9; hidden++) {
                due.is("wouldFind(0, " + hidden + ") with " + alertness,
                    hidden + alertness >= 10, x.wouldFind(0, hidden));
            }
            x.pass(3);
        }
    }

    private static void wouldFindOfThisGuardAndThatOne() {
        SleepBorder x = Borders.withGuards(2);
        x.arrive(0, 0, 0, 60);
        x.pass(3);
        x.arrive(1, 0, 0, 60);
        x.arrive(2, 0, 0, 60);
        due.is("wouldFind(0, 1) of 1 with 8", false, x.wouldFind(0, 1));
        due.is("wouldFind(0, 2) of 2 with 8", true, x.wouldFind(0, 2));
        due.is("wouldFind(1, 1) of 1 with 9", true, x.wouldFind(1, 1));
        due.is("wouldFind(1, 2) of 2 with 9", true, x.wouldFind(1, 2));
    }

    private static void wouldFindNow() {
        SleepBorder x = Borders.withGuards(1);
        x.arrive(0, 0, 0, 60);
        x.arrive(1, 0, 0, 60);
        due.is("wouldFind(0, 1) with 9", true, x.wouldFind(0, 1));
        x.pass(3);
        due.is("wouldFind(0, 1) with 8", false, x.wouldFind(0, 1));
        x.wake(0);
        due.is("wouldFind(0, 1) with 9 again", true, x.wouldFind(0, 1));
        x.declare(1, 1);
        due.is("wouldFind(0, 1) of nothing", false, x.wouldFind(0, 1));
    }

    private static void wouldFindInEveryState() {
        boolean[] found = {false, false, false, false, true, true};
        for (int state = 0; state < found.length; state++) {
            SleepBorder x = Borders.firstIn(state);
            x.addGuard();
            due.is("wouldFind(0, 0) in state " + state, found[state], x.wouldFind(0, 0));
            due.is("wouldFind(1, 0) in state " + state, found[state], x.wouldFind(1, 0));
        }
        SleepBorder x = Borders.withGuards(2);
        x.arrive(1, 0, 0, 60);
        x.pass(1);
        due.is("wouldFind(0, 0) of one who is searched", true, x.wouldFind(0, 0));
        due.is("wouldFind(1, 0) of one who is searched by another", true, x.wouldFind(1, 0));
    }

    private static void wouldFindNothing() {
        SleepBorder x = Borders.withGuards(4);
        x.arrive(0, 0, 0, 60);
        x.arrive(9, 9, 0, 60);
        x.arrive(0, 9, 0, 60);
        for (int guard = 0; guard < 4; guard++) {
            for (int traveller = 0; traveller < 3; traveller++) {
                due.is("wouldFind(" + guard + ", " + traveller + ")", false, x.wouldFind(guard, traveller));
            }
        }
    }

    private static void wouldFindOfNoSuchTraveller() {
        SleepBorder x = Borders.withGuards(4);
        for (int came = 0; came <= 24; came += 6) {
            for (int wrong : Borders.notOf(came)) {
                due.refuses("wouldFind(0, " + wrong + ") of " + came, Borders.NO_SUCH, () -> x.wouldFind(0, wrong));
                due.refuses("wouldFind(4, " + wrong + ") of " + came, Borders.NO_SUCH, () -> x.wouldFind(4, wrong));
            }
            Borders.plainOnes(x, came < 24 ? 6 : 0);
        }
        due.is("wouldFind(3, 23)", false, x.wouldFind(3, 23));
    }

    private static void mostAlert() {
        SleepBorder x = Borders.withGuards(4);
        Borders.plainOnes(x, 4);
        x.pass(3);
        for (int guard = 3; guard >= 0; guard--) {
            x.wake(guard);
            due.is("mostAlert() as " + guard + " is woken", guard, x.mostAlert());
        }
        SleepBorder y = Borders.withGuards(1);
        Borders.plainOnes(y, 9);
        y.pass(27);
        due.is("mostAlert() of one with 0", 0, y.mostAlert());
        y.addGuard();
        due.is("mostAlert() of 0 and 9", 1, y.mostAlert());
    }

    private static void mostAlertOfSeveral() {
        SleepBorder x = new SleepBorder();
        for (int guards = 1; guards <= 4; guards++) {
            x.addGuard();
            due.is("mostAlert() of " + guards + " alike", 0, x.mostAlert());
        }
        Borders.plainOnes(x, 2);
        x.pass(3);
        due.is("mostAlert() of 8, 8, 9, 9", 2, x.mostAlert());
        x.wake(1);
        due.is("mostAlert() of 8, 9, 9, 9", 1, x.mostAlert());
    }

    private static void mostAlertWithoutGuards() {
        SleepBorder x = new SleepBorder();
        due.is("mostAlert() of a new border", -1, x.mostAlert());
        Borders.plainOnes(x, 3);
        x.guardsWanted();
        x.pass(2);
        due.is("mostAlert() with travellers alone", -1, x.mostAlert());
        x.addGuard();
        due.is("mostAlert() of one", 0, x.mostAlert());
    }
}
