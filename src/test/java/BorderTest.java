/** Promises 8 to 16: minute, travellers, waiting, asleep, sentBack, expired, paid, noise and nextInLine. */
public final class BorderTest {
    private static final Due due = new Due();

    public static void main(String[] args) {
        due.sentence("8: Returns the minute", BorderTest::minute);
        due.sentence("9: Returns how many travellers came", BorderTest::travellers);
        due.sentence("9: none to 24", BorderTest::travellersNoneToAll);
        due.sentence("10: Returns how many of them wait", BorderTest::waiting);
        due.sentence("10: none to 24", BorderTest::waitingNoneToAll);
        due.sentence("11: Returns how many of them sleep", BorderTest::asleep);
        due.sentence("11: none to 24", BorderTest::asleepNoneToAll);
        due.sentence("12: Returns how many of them were sent back", BorderTest::sentBack);
        due.sentence("12: none to 24", BorderTest::sentBackNoneToAll);
        due.sentence("13: Returns how many of these as a lullaby had expired", BorderTest::expired);
        due.sentence("13: none to 24", BorderTest::expiredNoneToAll);
        due.sentence("14: Returns what was paid in all", BorderTest::paid);
        due.sentence("14: nothing to all that can be paid", BorderTest::paidNothingToAll);
        due.sentence("15: Returns the noise", BorderTest::noise);
        due.sentence("15: 0 as nobody is in transit", BorderTest::noiseOfNobody);
        due.sentence("16: Returns the one who waits with the smallest number", BorderTest::nextInLine);
        due.sentence("16: -1 if nobody waits", BorderTest::nextInLineOfNobody);
        due.end("BorderTest");
    }

    private static void minute() {
        SleepBorder x = new SleepBorder();
        due.is("minute() of a new border", 0, x.minute());
        x.addGuard();
        x.arrive(0, 0, 0, 60);
        x.asleepIn(60);
        due.is("minute() as nothing passed", 0, x.minute());
        x.pass(1);
        due.is("minute()", 1, x.minute());
        x.pass(60);
        due.is("minute()", 61, x.minute());
        x.pass(17);
        due.is("minute() as nobody is left", 78, x.minute());
    }

    private static void travellers() {
        SleepBorder x = Borders.busy();
        due.is("travellers() in all states", 8, x.travellers());
        x.pass(60);
        due.is("travellers() as none waits", 8, x.travellers());
        x.addGuard();
        due.is("travellers() as a guard comes", 8, x.travellers());
    }

    private static void travellersNoneToAll() {
        SleepBorder x = new SleepBorder();
        for (int came = 0; came < 24; came++) {
            due.is("travellers()", came, x.travellers());
            x.arrive(0, 0, 0, 1);
        }
        due.is("travellers()", 24, x.travellers());
    }

    private static void waiting() {
        int[] waiting = {1, 0, 0, 0, 0, 0};
        for (int state = 0; state < waiting.length; state++) {
            due.is("waiting() in state " + state, waiting[state], Borders.firstIn(state).waiting());
        }
        due.is("waiting() of busy", 2, Borders.busy().waiting());
    }

    private static void waitingNoneToAll() {
        SleepBorder x = new SleepBorder();
        for (int came = 0; came < 24; came++) {
            due.is("waiting()", came, x.waiting());
            x.arrive(0, 0, 0, 60);
        }
        due.is("waiting()", 24, x.waiting());
        x.pass(60);
        due.is("waiting() as all expired", 0, x.waiting());
    }

    private static void asleep() {
        int[] asleep = {0, 0, 0, 1, 0, 0};
        for (int state = 0; state < asleep.length; state++) {
            due.is("asleep() in state " + state, asleep[state], Borders.firstIn(state).asleep());
        }
        SleepBorder x = Borders.busy();
        due.is("asleep() of busy", 1, x.asleep());
        x.pass(3);
        due.is("asleep() of busy later", 2, x.asleep());
    }

    private static void asleepNoneToAll() {
        SleepBorder x = Borders.withGuards(4);
        due.is("asleep() of nobody", 0, x.asleep());
        Borders.plainOnes(x, 24);
        due.is("asleep() of 24 who wait", 0, x.asleep());
        x.pass(22);
        due.is("asleep() as the last four are in transit", 20, x.asleep());
        x.pass(1);
        due.is("asleep()", 24, x.asleep());
    }

    private static void sentBack() {
        int[] sentBack = {0, 0, 0, 0, 1, 1};
        for (int state = 0; state < sentBack.length; state++) {
            due.is("sentBack() in state " + state, sentBack[state], Borders.firstIn(state).sentBack());
        }
        due.is("sentBack() of busy", 2, Borders.busy().sentBack());
    }

    private static void sentBackNoneToAll() {
        SleepBorder x = new SleepBorder();
        due.is("sentBack() of nobody", 0, x.sentBack());
        Borders.plainOnes(x, 24);
        x.pass(59);
        due.is("sentBack() of 24 with a minute left", 0, x.sentBack());
        x.pass(1);
        due.is("sentBack()", 24, x.sentBack());
    }

    private static void expired() {
        int[] expired = {0, 0, 0, 0, 0, 1};
        for (int state = 0; state < expired.length; state++) {
            due.is("expired() in state " + state, expired[state], Borders.firstIn(state).expired());
        }
        due.is("expired() of busy", 1, Borders.busy().expired());
    }

    private static void expiredNoneToAll() {
        SleepBorder x = new SleepBorder();
        due.is("expired() of nobody", 0, x.expired());
        for (int traveller = 0; traveller < 24; traveller++) {
            x.arrive(9, 0, 0, 1 + traveller);
        }
        for (int minute = 1; minute <= 24; minute++) {
            x.pass(1);
            due.is("expired() behind " + minute, minute, x.expired());
        }
        x.pass(1);
        due.is("expired() later", 24, x.expired());
    }

    private static void paid() {
        int[] paid = {0, 0, 0, 0, 6, 0};
        for (int state = 0; state < paid.length; state++) {
            due.is("paid() in state " + state, paid[state], Borders.firstIn(state).paid());
        }
        SleepBorder x = Borders.withGuards(1);
        x.arrive(5, 1, 0, 60);
        x.arrive(9, 0, 0, 60);
        x.pass(4);
        due.is("paid() for 4", 12, x.paid());
        x.pass(3);
        due.is("paid() for 4 and 9", 39, x.paid());
    }

    private static void paidNothingToAll() {
        SleepBorder x = Borders.withGuards(4);
        due.is("paid() of nobody", 0, x.paid());
        for (int i = 0; i < 24; i++) {
            x.arrive(9, 0, 9, 60);
        }
        due.is("paid() of 24 who wait", 0, x.paid());
        for (int found = 1; found <= 6; found++) {
            x.pass(3);
            due.is("paid() of " + 4 * found, 4 * found * 27, x.paid());
        }
        due.is("sentBack()", 24, x.sentBack());
    }

    private static void noise() {
        SleepBorder x = Borders.withGuards(1);
        x.arrive(0, 0, 3, 60);
        x.arrive(0, 0, 8, 60);
        int[] noise = {0, 0, 3, 3, 3, 11, 11, 8, 8, 8, 0};
        for (int minute = 0; minute < noise.length; minute++) {
            x.pass(1);
            due.is("noise() behind " + (minute + 1), noise[minute], x.noise());
        }
    }

    private static void noiseOfNobody() {
        due.is("noise() of a new border", 0, new SleepBorder().noise());
        int[] noise = {0, 0, 6, 0, 0, 0};
        for (int state = 0; state < noise.length; state++) {
            due.is("noise() in state " + state, noise[state], Borders.firstIn(state).noise());
        }
    }

    private static void nextInLine() {
        due.is("nextInLine() of busy", 6, Borders.busy().nextInLine());
        SleepBorder x = Borders.withGuards(1);
        x.arrive(0, 9, 0, 60);
        x.arrive(0, 0, 0, 2);
        x.arrive(0, 0, 0, 60);
        int[] next = {0, 1, 2};
        for (int minute = 0; minute < next.length; minute++) {
            due.is("nextInLine() at " + minute, next[minute], x.nextInLine());
            x.pass(1);
        }
        SleepBorder last = new SleepBorder();
        for (int i = 0; i < 23; i++) {
            last.arrive(0, 0, 0, 1);
        }
        last.arrive(0, 0, 0, 2);
        last.pass(1);
        due.is("nextInLine(), the last of 24", 23, last.nextInLine());
    }

    private static void nextInLineOfNobody() {
        due.is("nextInLine() of a new border", -1, new SleepBorder().nextInLine());
        int[] next = {0, -1, -1, -1, -1, -1};
        for (int state = 0; state < next.length; state++) {
            due.is("nextInLine() in state " + state, next[state], Borders.firstIn(state).nextInLine());
        }
        SleepBorder x = new SleepBorder();
        Borders.plainOnes(x, 24);
        x.pass(60);
        due.is("nextInLine() as 24 expired", -1, x.nextInLine());
    }
}
