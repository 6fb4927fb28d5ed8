/** Borders that the tests begin with, and numbers that are wrong for every border. */
final class Borders {
    static final Class<IndexOutOfBoundsException> NO_SUCH = IndexOutOfBoundsException.class;
    static final Class<IllegalArgumentException> BAD = IllegalArgumentException.class;
    static final Class<IllegalStateException> NOT_NOW = IllegalStateException.class;

    /** The states as stateOf tells them, and one more for who was sent back without being found. */
    static final int WAITING = 0;
    static final int SEARCHED = 1;
    static final int IN_TRANSIT = 2;
    static final int ASLEEP = 3;
    static final int FOUND = 4;
    static final int EXPIRED = 5;

    private Borders() {
    }

    static int[] notDigits() {
        return new int[] {-1, 10, 256, -256, Integer.MIN_VALUE, Integer.MAX_VALUE};
    }

    static int[] notMinutes() {
        return new int[] {0, -1, 61, 257, -255, Integer.MIN_VALUE, Integer.MAX_VALUE};
    }

    /** Numbers that none of so many has. */
    static int[] notOf(int many) {
        return new int[] {-1, many, many + 1, Integer.MIN_VALUE, Integer.MAX_VALUE};
    }

    static SleepBorder withGuards(int guards) {
        SleepBorder x = new SleepBorder();
        for (int guard = 0; guard < guards; guard++) {
            x.addGuard();
        }
        return x;
    }

    /** So many travellers who hide nothing, declare nothing and do not snore. */
    static void plainOnes(SleepBorder x, int many) {
        for (int i = 0; i < many; i++) {
            x.arrive(0, 0, 0, 60);
        }
    }

    /** A guard, and traveller 0 in this state, with 7 dreams declared, a snore of 6, and 2 hidden if sent back. */
    static SleepBorder firstIn(int state) {
        SleepBorder x = withGuards(1);
        x.arrive(state >= FOUND ? 9 : 7, 7, 6, state == EXPIRED ? 1 : 30);
        // The search begins in the first minute and takes 9, and the transit takes 5 behind it.
        int[] gone = {0, 1, 10, 15, 10, 1};
        if (gone[state] > 0) {
            x.pass(gone[state]);
        }
        return x;
    }

    /**
     * Two guards at work, and eight travellers in all states: 0 asleep, 1 found, 2 expired, 3 in transit,
     * 4 and 5 searched, 6 and 7 waiting.
     */
    static SleepBorder busy() {
        SleepBorder x = withGuards(2);
        x.arrive(0, 0, 5, 60);
        x.arrive(9, 0, 3, 60);
        x.arrive(0, 0, 0, 1);
        x.arrive(0, 0, 4, 60);
        x.arrive(5, 9, 0, 60);
        x.arrive(4, 1, 0, 60);
        x.arrive(7, 2, 6, 50);
        x.arrive(3, 0, 9, 40);
        x.pass(9);
        return x;
    }

    /** The busy border with as many guards and travellers as there may be. */
    static SleepBorder full() {
        SleepBorder x = busy();
        x.addGuard();
        x.addGuard();
        for (int traveller = 8; traveller < 24; traveller++) {
            x.arrive(5 + traveller % 5, traveller * 3 % 5, traveller * 7 % 10, 20 + traveller);
        }
        return x;
    }

    /** All that can be seen of a border, in some 170 calls at most. */
    static String seen(SleepBorder x) {
        StringBuilder all = new StringBuilder();
        all.append(x.minute()).append(' ').append(x.waiting()).append(' ').append(x.asleep()).append(' ');
        all.append(x.sentBack()).append(' ').append(x.expired()).append(' ').append(x.paid()).append(' ');
        all.append(x.noise()).append(' ').append(x.nextInLine()).append(' ').append(x.mostAlert()).append(' ');
        all.append(x.asleepIn(60)).append(' ').append(x.guardsWanted()).append(' ').append(x.meanAlertness());
        int travellers = x.travellers();
        for (int i = 0; i < travellers; i++) {
            all.append("; ").append(i).append(": ").append(x.stateOf(i)).append(' ').append(x.hiddenOf(i));
            all.append(' ').append(x.lullabyOf(i)).append(' ').append(x.placeInLine(i));
            all.append(' ').append(x.searchTime(i)).append(' ').append(x.minutesUntilAsleep(i));
        }
        int guards = x.guards();
        for (int i = 0; i < guards; i++) {
            all.append("; guard ").append(i).append(": ").append(x.alertnessOf(i)).append(' ');
            all.append(x.searches(i)).append(' ').append(x.minutesToGo(i));
        }
        return all.toString();
    }
}
