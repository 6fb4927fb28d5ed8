import java.util.function.Consumer;
import java.util.function.Supplier;

/** The terms of the document that hold for every promise, but for how a minute goes. */
public final class TermsTest {
    private static final Due due = new Due();

    public static void main(String[] args) {
        due.sentence("An object is used for at most 512 calls", TermsTest::allCallsAreAnswered);
        due.sentence("/ is cut towards 0", TermsTest::noiseIsDividedAndCut);
        due.sentence("Time is told in minutes, from 0", TermsTest::timeBeginsAtZero);
        due.sentence("Travellers. At most 24, numbered from 0 in the order in which they came",
            TermsTest::travellersAreNumberedAsTheyCame);
        due.sentence("each has dreams, 0 to 9", TermsTest::dreamsAreZeroToNine);
        due.sentence("has declared some, 0 to 9", TermsTest::declaredAreZeroToNine);
        due.sentence("has a snore, 0 to 9", TermsTest::snoresAreZeroToNine);
        due.sentence("and a lullaby for some minutes", TermsTest::lullabiesAreOneToSixty);
        due.sentence("Each waits (at first)", TermsTest::eachWaitsAtFirst);
        due.sentence("is searched, in transit, asleep, or sent back", TermsTest::eachIsInOneState);
        due.sentence("Guards. At most 4, numbered likewise", TermsTest::guardsAreNumberedAsTheyCame);
        due.sentence("each has an alertness (9, at first)", TermsTest::theAlertnessIsNineAtFirst);
        due.sentence("and searches somebody, or nobody (nobody, at first)", TermsTest::aNewGuardSearchesNobody);
        due.sentence("Noise: the snores of all in transit, added", TermsTest::allInTransitAreHeard);
        due.sentence("Noise: of nobody else", TermsTest::nobodyElseIsHeard);
        due.sentence("Hidden dreams: dreams less those declared", TermsTest::hiddenAreThoseNotDeclared);
        due.sentence("Hidden dreams: at least 0", TermsTest::hiddenAreAtLeastNone);
        due.sentence("A guard would find them if hidden dreams and alertness, added, are 10 or more",
            TermsTest::tenOrMoreAreFound);
        due.sentence("A guard would find them if there are some", TermsTest::nothingHiddenIsNotFound);
        due.sentence("A search takes 2 minutes", TermsTest::aSearchTakesTwoMinutes);
        due.sentence("and 1 for each dream declared", TermsTest::aSearchTakesOneForEachDreamDeclared);
        due.sentence("and noise / 4", TermsTest::aSearchTakesLongerByNoise);
        due.sentence("by the noise as it begins: it grows", TermsTest::noiseThatGrowsLaterIsNotHeard);
        due.sentence("by the noise as it begins: it falls", TermsTest::noiseThatFallsLaterIsHeard);
        due.sentence("A method that throws changes nothing: addGuard", TermsTest::addGuardRefusedChangesNothing);
        due.sentence("A method that throws changes nothing: arrive", TermsTest::arriveRefusedChangesNothing);
        due.sentence("A method that throws changes nothing: declare", TermsTest::declareRefusedChangesNothing);
        due.sentence("A method that throws changes nothing: sing", TermsTest::singRefusedChangesNothing);
        due.sentence("A method that throws changes nothing: wake", TermsTest::wakeRefusedChangesNothing);
        due.sentence("A method that throws changes nothing: pass", TermsTest::passRefusedChangesNothing);
        due.sentence("A method that throws changes nothing: questions", TermsTest::questionsRefusedChangeNothing);
        due.sentence("the one that is named first is thrown: arrive", TermsTest::arriveNamesBadNumbersFirst);
        due.sentence("the one that is named first is thrown: declare, no such traveller before a bad number",
            TermsTest::declareNamesNoSuchTravellerFirst);
        due.sentence("the one that is named first is thrown: declare, a bad number before one who does not wait",
            TermsTest::declareNamesBadNumbersSecond);
        due.sentence("the one that is named first is thrown: sing, no such traveller before a bad number",
            TermsTest::singNamesNoSuchTravellerFirst);
        due.sentence("the one that is named first is thrown: sing, a bad number before one who does not wait",
            TermsTest::singNamesBadNumbersSecond);
        due.end("TermsTest");
    }

    private static void allCallsAreAnswered() {
        SleepBorder x = new SleepBorder();
        due.is("call 1, addGuard()", 0, x.addGuard());
        for (int call = 2; call <= 510; call++) {
            due.is("call " + call + ", pass(60)", 0, x.pass(60));
        }
        due.is("call 511, arrive(0, 0, 0, 1)", 0, x.arrive(0, 0, 0, 1));
        due.is("call 512, minute()", 509 * 60, x.minute());
    }

    private static void noiseIsDividedAndCut() {
        int[] quarters = {0, 0, 0, 0, 1, 1, 1, 1, 2, 2};
        for (int snore = 0; snore <= 9; snore++) {
            SleepBorder x = Borders.withGuards(1);
            x.arrive(0, 0, snore, 60);
            x.arrive(0, 0, 0, 60);
            x.pass(3);
            due.is("noise()", snore, x.noise());
            due.is("searchTime(1) with noise " + snore, 2 + quarters[snore], x.searchTime(1));
            x.pass(1);
            due.is("minutesToGo(0) with noise " + snore, 2 + quarters[snore], x.minutesToGo(0));
        }
    }

    private static void timeBeginsAtZero() {
        SleepBorder x = new SleepBorder();
        due.is("minute() of a new border", 0, x.minute());
        x.pass(1);
        due.is("minute() behind a minute", 1, x.minute());
    }

    private static void travellersAreNumberedAsTheyCame() {
        SleepBorder x = new SleepBorder();
        for (int traveller = 0; traveller < 24; traveller++) {
            due.is("arrive", traveller, x.arrive(9, traveller % 10, 0, 1 + traveller));
        }
        for (int traveller = 0; traveller < 24; traveller++) {
            due.is("lullabyOf(" + traveller + ")", 1 + traveller, x.lullabyOf(traveller));
            due.is("hiddenOf(" + traveller + ")", 9 - traveller % 10, x.hiddenOf(traveller));
        }
        due.refuses("the 25th", Borders.NOT_NOW, () -> x.arrive(0, 0, 0, 60));
    }

    private static void dreamsAreZeroToNine() {
        SleepBorder x = new SleepBorder();
        for (int dreams = 0; dreams <= 9; dreams++) {
            x.arrive(dreams, 0, 0, 60);
            due.is("hiddenOf one with " + dreams, dreams, x.hiddenOf(dreams));
        }
    }

    private static void declaredAreZeroToNine() {
        SleepBorder x = new SleepBorder();
        for (int declared = 0; declared <= 9; declared++) {
            x.arrive(9, declared, 0, 60);
            due.is("hiddenOf one who declares " + declared, 9 - declared, x.hiddenOf(declared));
            due.is("searchTime of one who declares " + declared, 2 + declared, x.searchTime(declared));
        }
    }

    private static void snoresAreZeroToNine() {
        for (int snore = 0; snore <= 9; snore++) {
            SleepBorder x = Borders.withGuards(1);
            x.arrive(0, 0, snore, 60);
            x.pass(3);
            due.is("noise() of a snore of " + snore, snore, x.noise());
        }
    }

    private static void lullabiesAreOneToSixty() {
        int[] some = {1, 2, 9, 10, 31, 32, 59, 60};
        for (int minutes : some) {
            SleepBorder x = new SleepBorder();
            x.arrive(0, 0, 0, minutes);
            due.is("lullabyOf(0) of " + minutes, minutes, x.lullabyOf(0));
        }
    }

    private static void eachWaitsAtFirst() {
        SleepBorder x = Borders.busy();
        due.is("arrive", 8, x.arrive(9, 9, 9, 1));
        due.is("stateOf(8)", 0, x.stateOf(8));
        due.is("waiting()", 3, x.waiting());
    }

    private static void eachIsInOneState() {
        SleepBorder x = Borders.busy();
        int[] states = {3, 4, 4, 2, 1, 1, 0, 0};
        for (int traveller = 0; traveller < 8; traveller++) {
            due.is("stateOf(" + traveller + ")", states[traveller], x.stateOf(traveller));
        }
    }

    private static void guardsAreNumberedAsTheyCame() {
        SleepBorder x = new SleepBorder();
        for (int guard = 0; guard < 4; guard++) {
            due.is("addGuard()", guard, x.addGuard());
        }
        due.refuses("the fifth", Borders.NOT_NOW, x::addGuard);
        Borders.plainOnes(x, 4);
        x.pass(1);
        for (int guard = 0; guard < 4; guard++) {
            due.is("searches(" + guard + ")", guard, x.searches(guard));
        }
    }

    private static void theAlertnessIsNineAtFirst() {
        SleepBorder x = new SleepBorder();
        for (int guard = 0; guard < 4; guard++) {
            x.addGuard();
            due.is("alertnessOf(" + guard + ")", 9, x.alertnessOf(guard));
        }
        SleepBorder late = Borders.busy();
        late.addGuard();
        due.is("alertnessOf(0), tired", 7, late.alertnessOf(0));
        due.is("alertnessOf(2), who came late", 9, late.alertnessOf(2));
    }

    private static void aNewGuardSearchesNobody() {
        SleepBorder x = Borders.busy();
        for (int guard = 2; guard < 4; guard++) {
            x.addGuard();
            due.is("searches(" + guard + ")", -1, x.searches(guard));
            due.is("minutesToGo(" + guard + ")", 0, x.minutesToGo(guard));
        }
        due.is("waiting()", 2, x.waiting());
    }

    private static void allInTransitAreHeard() {
        SleepBorder x = Borders.withGuards(4);
        due.is("noise() of nobody", 0, x.noise());
        int[] snores = {9, 4, 0, 7};
        for (int snore : snores) {
            x.arrive(0, 0, snore, 60);
        }
        x.pass(3);
        due.is("noise() of four", 20, x.noise());
        x.pass(4);
        due.is("noise() of four in their last minute", 20, x.noise());
        x.pass(1);
        due.is("noise() as all sleep", 0, x.noise());
    }

    private static void nobodyElseIsHeard() {
        int[] noise = {0, 0, 6, 0, 0, 0};
        for (int state = 0; state < noise.length; state++) {
            due.is("noise() with one in state " + state, noise[state], Borders.firstIn(state).noise());
        }
    }

    private static void hiddenAreThoseNotDeclared() {
        SleepBorder x = new SleepBorder();
        x.arrive(9, 0, 0, 60);
        x.arrive(9, 8, 0, 60);
        x.arrive(9, 9, 0, 60);
        x.arrive(1, 0, 0, 60);
        int[] hidden = {9, 1, 0, 1};
        for (int traveller = 0; traveller < 4; traveller++) {
            due.is("hiddenOf(" + traveller + ")", hidden[traveller], x.hiddenOf(traveller));
        }
    }

    private static void hiddenAreAtLeastNone() {
        SleepBorder x = new SleepBorder();
        x.arrive(0, 1, 0, 60);
        x.arrive(0, 9, 0, 60);
        x.arrive(8, 9, 0, 60);
        for (int traveller = 0; traveller < 3; traveller++) {
            due.is("hiddenOf(" + traveller + ") who declares too many", 0, x.hiddenOf(traveller));
        }
    }

    /** A guard with so much alertness searches one who hides so many; behind it this is paid. */
    private static int paidAtAlertness(int alertness, int hidden) {
        SleepBorder x = Borders.withGuards(1);
        int before = 9 - alertness;
        Borders.plainOnes(x, before);
        x.arrive(hidden, 0, 0, 60);
        // Nobody snores or declares: a search takes 2 minutes behind the one in which it begins.
        for (int searches = 0; searches < before; searches++) {
            x.pass(3);
        }
        x.pass(1);
        due.is("alertnessOf(0) as the search begins", alertness, x.alertnessOf(0));
        due.is("wouldFind(0, " + before + ")", hidden + alertness >= 10, x.wouldFind(0, before));
        x.pass(2);
        due.is("stateOf(" + before + ")", hidden + alertness >= 10 ? 4 : 2, x.stateOf(before));
        return x.paid();
    }

    private static void tenOrMoreAreFound() {
        for (int alertness = 0; alertness <= 9; alertness++) {
            for (int hidden = 1; hidden <= 9; hidden++) {
                due.is("paid() for " + hidden + " hidden to an alertness of " + alertness,
                    hidden + alertness >= 10 ? 3 * hidden : 0, paidAtAlertness(alertness, hidden));
            }
        }
    }

    private static void nothingHiddenIsNotFound() {
        SleepBorder x = Borders.withGuards(1);
        x.arrive(0, 0, 0, 60);
        x.arrive(9, 9, 0, 60);
        x.arrive(0, 9, 0, 60);
        for (int traveller = 0; traveller < 3; traveller++) {
            due.is("wouldFind(0, " + traveller + ")", false, x.wouldFind(0, traveller));
        }
        x.pass(30);
        due.is("sentBack()", 0, x.sentBack());
        due.is("paid()", 0, x.paid());
    }

    private static void aSearchTakesTwoMinutes() {
        SleepBorder x = Borders.withGuards(1);
        x.arrive(9, 0, 0, 60);
        due.is("searchTime(0)", 2, x.searchTime(0));
        int[] toGo = {2, 1, 0};
        int[] states = {1, 1, 4};
        for (int minute = 0; minute < 3; minute++) {
            x.pass(1);
            due.is("minutesToGo(0) behind " + (minute + 1), toGo[minute], x.minutesToGo(0));
            due.is("stateOf(0) behind " + (minute + 1), states[minute], x.stateOf(0));
        }
    }

    private static void aSearchTakesOneForEachDreamDeclared() {
        for (int declared = 0; declared <= 9; declared++) {
            SleepBorder x = Borders.withGuards(1);
            x.arrive(9 - declared, declared, 0, 60);
            x.pass(1);
            due.is("minutesToGo(0)", 2 + declared, x.minutesToGo(0));
            x.pass(1 + declared);
            due.is("minutesToGo(0) a minute before the end", 1, x.minutesToGo(0));
            x.pass(1);
            due.is("minutesToGo(0) behind the end", 0, x.minutesToGo(0));
        }
    }

    private static void aSearchTakesLongerByNoise() {
        SleepBorder x = Borders.withGuards(4);
        for (int i = 0; i < 4; i++) {
            x.arrive(0, 0, 9, 60);
        }
        x.arrive(0, 9, 0, 60);
        x.pass(3);
        due.is("searchTime(4) with noise 36", 20, x.searchTime(4));
        x.pass(1);
        due.is("minutesToGo(0)", 20, x.minutesToGo(0));
        x.pass(19);
        due.is("stateOf(4) a minute before the end", 1, x.stateOf(4));
        x.pass(1);
        due.is("stateOf(4) behind the end", 2, x.stateOf(4));
    }

    private static void noiseThatGrowsLaterIsNotHeard() {
        SleepBorder x = Borders.withGuards(2);
        x.arrive(0, 0, 9, 60);
        x.arrive(0, 5, 0, 60);
        int[] noise = {0, 0, 9, 9, 9, 9, 9, 0};
        for (int minute = 0; minute < noise.length; minute++) {
            x.pass(1);
            due.is("noise() behind " + (minute + 1), noise[minute], x.noise());
            due.is("minutesToGo(1) behind " + (minute + 1), 7 - minute, x.minutesToGo(1));
        }
        due.is("stateOf(1)", 2, x.stateOf(1));
    }

    private static void noiseThatFallsLaterIsHeard() {
        SleepBorder x = Borders.withGuards(4);
        for (int i = 0; i < 4; i++) {
            x.arrive(0, 0, 9, 60);
        }
        x.arrive(0, 0, 0, 60);
        x.pass(3);
        int[] noise = {36, 36, 36, 36, 0, 0, 0, 0, 0, 0, 0, 0};
        for (int minute = 0; minute < noise.length; minute++) {
            x.pass(1);
            due.is("noise() behind " + (minute + 4), noise[minute], x.noise());
            due.is("minutesToGo(0) behind " + (minute + 4), 11 - minute, x.minutesToGo(0));
        }
        due.is("stateOf(4)", 2, x.stateOf(4));
    }

    /** A border behind refused calls must go on like one without them. */
    private static void unchanged(Supplier<SleepBorder> made, Consumer<SleepBorder> refusedCalls) {
        SleepBorder x = made.get();
        SleepBorder without = made.get();
        refusedCalls.accept(x);
        due.is("all that is seen", Borders.seen(without), Borders.seen(x));
        x.pass(10);
        without.pass(10);
        due.is("all that is seen later", Borders.seen(without), Borders.seen(x));
    }

    private static void addGuardRefusedChangesNothing() {
        unchanged(Borders::full, x -> due.refuses("addGuard()", Borders.NOT_NOW, x::addGuard));
        unchanged(TermsTest::fullLater, x -> due.refuses("addGuard()", Borders.NOT_NOW, x::addGuard));
    }

    private static SleepBorder fullLater() {
        SleepBorder x = Borders.full();
        x.pass(2);
        return x;
    }

    private static void arriveRefusedChangesNothing() {
        unchanged(Borders::full, x -> {
            due.refuses("arrive(9, 1, 1, 1)", Borders.NOT_NOW, () -> x.arrive(9, 1, 1, 1));
            due.refuses("arrive(0, 9, 9, 60)", Borders.NOT_NOW, () -> x.arrive(0, 9, 9, 60));
            due.refuses("arrive(10, 1, 1, 1)", Borders.BAD, () -> x.arrive(10, 1, 1, 1));
        });
        unchanged(TermsTest::fullWithOneToBeHeard, x ->
            due.refuses("arrive(0, 9, 9, 60)", Borders.NOT_NOW, () -> x.arrive(0, 9, 9, 60)));
        unchanged(Borders::busy, x -> {
            due.refuses("arrive(10, 1, 1, 1)", Borders.BAD, () -> x.arrive(10, 1, 1, 1));
            due.refuses("arrive(1, -1, 1, 1)", Borders.BAD, () -> x.arrive(1, -1, 1, 1));
            due.refuses("arrive(1, 1, 10, 1)", Borders.BAD, () -> x.arrive(1, 1, 10, 1));
            due.refuses("arrive(1, 1, 1, 0)", Borders.BAD, () -> x.arrive(1, 1, 1, 0));
            due.refuses("arrive(1, 1, 1, 61)", Borders.BAD, () -> x.arrive(1, 1, 1, 61));
        });
        SleepBorder x = new SleepBorder();
        due.refuses("arrive(10, 1, 1, 1)", Borders.BAD, () -> x.arrive(10, 1, 1, 1));
        due.is("the first arrive behind a refused one", 0, x.arrive(1, 1, 1, 1));
    }

    /** The last of 24 is in transit ten minutes later, and the others are sent back by then. */
    private static SleepBorder fullWithOneToBeHeard() {
        SleepBorder x = Borders.withGuards(1);
        for (int i = 0; i < 23; i++) {
            x.arrive(0, 0, 0, 1);
        }
        x.arrive(2, 3, 4, 50);
        return x;
    }

    private static void declareRefusedChangesNothing() {
        unchanged(Borders::busy, x -> {
            for (int traveller = 0; traveller < 6; traveller++) {
                int one = traveller;
                due.refuses("declare(" + one + ", 6)", Borders.NOT_NOW, () -> x.declare(one, 6));
                due.refuses("declare(" + one + ", 10)", Borders.BAD, () -> x.declare(one, 10));
            }
            due.refuses("declare(6, 10)", Borders.BAD, () -> x.declare(6, 10));
            due.refuses("declare(6, -1)", Borders.BAD, () -> x.declare(6, -1));
            due.refuses("declare(7, 10)", Borders.BAD, () -> x.declare(7, 10));
            due.refuses("declare(8, 6)", Borders.NO_SUCH, () -> x.declare(8, 6));
            due.refuses("declare(-1, 6)", Borders.NO_SUCH, () -> x.declare(-1, 6));
        });
    }

    private static void singRefusedChangesNothing() {
        unchanged(Borders::busy, x -> {
            for (int traveller = 0; traveller < 6; traveller++) {
                int one = traveller;
                due.refuses("sing(" + one + ", 33)", Borders.NOT_NOW, () -> x.sing(one, 33));
                due.refuses("sing(" + one + ", 61)", Borders.BAD, () -> x.sing(one, 61));
            }
            due.refuses("sing(6, 0)", Borders.BAD, () -> x.sing(6, 0));
            due.refuses("sing(6, 61)", Borders.BAD, () -> x.sing(6, 61));
            due.refuses("sing(7, 0)", Borders.BAD, () -> x.sing(7, 0));
            due.refuses("sing(8, 33)", Borders.NO_SUCH, () -> x.sing(8, 33));
            due.refuses("sing(-1, 33)", Borders.NO_SUCH, () -> x.sing(-1, 33));
        });
    }

    private static void wakeRefusedChangesNothing() {
        unchanged(Borders::busy, x -> {
            for (int guard : Borders.notOf(2)) {
                due.refuses("wake(" + guard + ")", Borders.NO_SUCH, () -> x.wake(guard));
            }
        });
    }

    private static void passRefusedChangesNothing() {
        unchanged(Borders::busy, x -> {
            for (int minutes : Borders.notMinutes()) {
                due.refuses("pass(" + minutes + ")", Borders.BAD, () -> x.pass(minutes));
            }
        });
    }

    private static void questionsRefusedChangeNothing() {
        unchanged(Borders::busy, x -> {
            for (int traveller : new int[] {-1, 8}) {
                due.refuses("stateOf", Borders.NO_SUCH, () -> x.stateOf(traveller));
                due.refuses("hiddenOf", Borders.NO_SUCH, () -> x.hiddenOf(traveller));
                due.refuses("lullabyOf", Borders.NO_SUCH, () -> x.lullabyOf(traveller));
                due.refuses("placeInLine", Borders.NO_SUCH, () -> x.placeInLine(traveller));
                due.refuses("searchTime", Borders.NO_SUCH, () -> x.searchTime(traveller));
                due.refuses("wouldFind", Borders.NO_SUCH, () -> x.wouldFind(0, traveller));
                due.refuses("minutesUntilAsleep", Borders.NO_SUCH, () -> x.minutesUntilAsleep(traveller));
                due.refuses("bestToDeclare", Borders.NO_SUCH, () -> x.bestToDeclare(traveller));
            }
            for (int guard : new int[] {-1, 2}) {
                due.refuses("alertnessOf", Borders.NO_SUCH, () -> x.alertnessOf(guard));
                due.refuses("searches", Borders.NO_SUCH, () -> x.searches(guard));
                due.refuses("minutesToGo", Borders.NO_SUCH, () -> x.minutesToGo(guard));
                due.refuses("wouldFind", Borders.NO_SUCH, () -> x.wouldFind(guard, 0));
            }
            due.refuses("asleepIn(0)", Borders.BAD, () -> x.asleepIn(0));
            due.refuses("asleepIn(61)", Borders.BAD, () -> x.asleepIn(61));
        });
    }

    private static void arriveNamesBadNumbersFirst() {
        SleepBorder x = Borders.full();
        due.refuses("arrive(-1, 1, 1, 1) as the 25th", Borders.BAD, () -> x.arrive(-1, 1, 1, 1));
        due.refuses("arrive(1, 10, 1, 1) as the 25th", Borders.BAD, () -> x.arrive(1, 10, 1, 1));
        due.refuses("arrive(1, 1, 10, 1) as the 25th", Borders.BAD, () -> x.arrive(1, 1, 10, 1));
        due.refuses("arrive(1, 1, 1, 0) as the 25th", Borders.BAD, () -> x.arrive(1, 1, 1, 0));
        due.refuses("arrive(1, 1, 1, 61) as the 25th", Borders.BAD, () -> x.arrive(1, 1, 1, 61));
    }

    private static void declareNamesNoSuchTravellerFirst() {
        SleepBorder x = Borders.busy();
        for (int traveller : Borders.notOf(8)) {
            due.refuses("declare(" + traveller + ", 10)", Borders.NO_SUCH, () -> x.declare(traveller, 10));
            due.refuses("declare(" + traveller + ", -1)", Borders.NO_SUCH, () -> x.declare(traveller, -1));
        }
    }

    private static void declareNamesBadNumbersSecond() {
        for (int state = Borders.SEARCHED; state <= Borders.EXPIRED; state++) {
            SleepBorder x = Borders.firstIn(state);
            due.refuses("declare(0, 10) in state " + state, Borders.BAD, () -> x.declare(0, 10));
            due.refuses("declare(0, -1) in state " + state, Borders.BAD, () -> x.declare(0, -1));
        }
    }

    private static void singNamesNoSuchTravellerFirst() {
        SleepBorder x = Borders.busy();
        for (int traveller : Borders.notOf(8)) {
            due.refuses("sing(" + traveller + ", 0)", Borders.NO_SUCH, () -> x.sing(traveller, 0));
            due.refuses("sing(" + traveller + ", 61)", Borders.NO_SUCH, () -> x.sing(traveller, 61));
        }
    }

    private static void singNamesBadNumbersSecond() {
        for (int state = Borders.SEARCHED; state <= Borders.EXPIRED; state++) {
            SleepBorder x = Borders.firstIn(state);
            due.refuses("sing(0, 0) in state " + state, Borders.BAD, () -> x.sing(0, 0));
            due.refuses("sing(0, 61) in state " + state, Borders.BAD, () -> x.sing(0, 61));
        }
    }
}
