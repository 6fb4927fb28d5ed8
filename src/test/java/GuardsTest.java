/** Promises 22 to 27: guards, alertnessOf, searches, minutesToGo, wouldFind and mostAlert. */
public final class GuardsTest {
    private static final Due due = new Due();

    public static void main(String[] args) {
        guards();
        aGuardAtWork();
        wouldFind();
        wouldFindInEveryState();
        mostAlert();
        noSuchGuard();
        due.end("GuardsTest");
    }

    private static void guards() {
        SleepBorder x = new SleepBorder();
        for (int guard = 0; guard < 4; guard++) {
            due.is("guards()", guard, x.guards());
            x.addGuard();
        }
        due.is("guards()", 4, x.guards());
        x.arrive(0, 0, 0, 1);
        x.guardsWanted();
        due.is("guards() behind guardsWanted()", 4, x.guards());
    }

    private static void aGuardAtWork() {
        SleepBorder x = new SleepBorder();
        x.addGuard();
        x.arrive(9, 1, 0, 60);
        x.arrive(0, 0, 0, 60);
        int[] alertness = {9, 9, 9, 9, 8, 8, 8, 7, 8};
        int[] searches = {-1, 0, 0, 0, -1, 1, 1, -1, -1};
        int[] toGo = {0, 3, 2, 1, 0, 2, 1, 0, 0};
        for (int minute = 0; minute < alertness.length; minute++) {
            due.is("alertnessOf(0) at " + minute, alertness[minute], x.alertnessOf(0));
            due.is("searches(0) at " + minute, searches[minute], x.searches(0));
            due.is("minutesToGo(0) at " + minute, toGo[minute], x.minutesToGo(0));
            x.pass(1);
        }
    }

    private static void wouldFind() {
        SleepBorder x = new SleepBorder();
        x.addGuard();
        for (int dreams = 0; dreams <= 9; dreams++) {
            x.arrive(dreams, 0, 0, 60);
        }
        for (int traveller = 10; traveller < 20; traveller++) {
            x.arrive(0, 9, 0, 60);
        }
        for (int searches = 0; searches <= 9; searches++) {
            int alertness = x.alertnessOf(0);
            due.is("alertnessOf(0)", 9 - searches, alertness);
            for (int hidden = 0; hidden <= 9; hidden++) {
                due.is("wouldFind(0, " + hidden + ") with " + alertness,
                    hidden > 0 && hidden + alertness >= 10, x.wouldFind(0, hidden));
            }
            due.is("wouldFind(0, 10), nothing hidden", false, x.wouldFind(0, 10));
            // Nobody snores: each search takes 2 minutes behind the one in which it begins.
            x.pass(3);
        }
    }

    private static void wouldFindInEveryState() {
        SleepBorder x = new SleepBorder();
        x.addGuard();
        x.addGuard();
        x.arrive(1, 0, 0, 60);
        x.arrive(1, 1, 0, 60);
        x.arrive(1, 0, 0, 1);
        x.pass(60);
        due.is("stateOf(0)", 4, x.stateOf(0));
        due.is("wouldFind(1, 0) of one who paid", true, x.wouldFind(1, 0));
        due.is("wouldFind(1, 1) of one who sleeps", false, x.wouldFind(1, 1));
        due.is("wouldFind(1, 2) of one expired", true, x.wouldFind(1, 2));
    }

    private static void mostAlert() {
        SleepBorder x = new SleepBorder();
        due.is("mostAlert() without guards", -1, x.mostAlert());
        x.addGuard();
        due.is("mostAlert() of one", 0, x.mostAlert());
        x.addGuard();
        x.addGuard();
        due.is("mostAlert() of three alike", 0, x.mostAlert());
        x.arrive(0, 0, 0, 60);
        x.arrive(0, 0, 0, 60);
        x.pass(3);
        due.is("mostAlert() of 8, 8, 9", 2, x.mostAlert());
        x.wake(1);
        due.is("mostAlert() of 8, 9, 9", 1, x.mostAlert());
        x.pass(1);
        due.is("mostAlert() of 9, 9, 9", 0, x.mostAlert());
    }

    private static void noSuchGuard() {
        SleepBorder x = new SleepBorder();
        Class<IndexOutOfBoundsException> noSuch = IndexOutOfBoundsException.class;
        x.arrive(0, 0, 0, 60);
        for (int guards = 0; guards <= 4; guards++) {
            int[] wrong = {-1, guards, 4, 5, 8, Integer.MIN_VALUE, Integer.MAX_VALUE};
            for (int guard : wrong) {
                due.refuses("alertnessOf(" + guard + ")", noSuch, () -> x.alertnessOf(guard));
                due.refuses("searches(" + guard + ")", noSuch, () -> x.searches(guard));
                due.refuses("minutesToGo(" + guard + ")", noSuch, () -> x.minutesToGo(guard));
                due.refuses("wouldFind(" + guard + ", 0)", noSuch, () -> x.wouldFind(guard, 0));
            }
            if (guards < 4) {
                x.addGuard();
                due.refuses("wouldFind(0, 1)", noSuch, () -> x.wouldFind(0, 1));
                due.refuses("wouldFind(0, -1)", noSuch, () -> x.wouldFind(0, -1));
                due.refuses("wouldFind(0, MAX)", noSuch, () -> x.wouldFind(0, Integer.MAX_VALUE));
            }
        }
    }
}
