/** A border of sleep with its guards. */
public final class SleepBorder {
    private static final int MOST_TRAVELLERS = 24;
    private static final int MOST_GUARDS = 4;
    private static final int MOST_GUARDS_WANTED = 4;
    private static final int GREATEST_DIGIT = 9;
    private static final int MOST_MINUTES = 60;
    private static final int HORIZON = 100;
    private static final int DIGEST_START = 2131;
    private static final int DIGEST_FACTOR = 31;
    private static final int DIGEST_MINUTES = 30;

    private final Border now = new Border();

    /** What would be is tried out here, so that the border itself stays as it is. */
    private final Border trial = new Border();

    /** Creates a border without guards and travellers, at the minute 0. */
    public SleepBorder() {
    }

    // ---- who comes

    /** Returns the number of a new guard. */
    public int addGuard() throws IllegalStateException {
        if (now.guardCount >= MOST_GUARDS) {
            throw new IllegalStateException("there are 4 guards");
        }
        now.admitGuard();
        return now.guardCount - 1;
    }

    /** Returns the number of a new traveller. */
    public int arrive(int dreams, int declared, int snore, int lullaby)
            throws IllegalArgumentException, IllegalStateException {
        requireDigit(dreams);
        requireDigit(declared);
        requireDigit(snore);
        requireMinutes(lullaby);
        if (now.travellerCount >= MOST_TRAVELLERS) {
            throw new IllegalStateException("there are 24 travellers");
        }
        now.admitTraveller(dreams, declared, snore, lullaby);
        return now.travellerCount - 1;
    }

    /** One who waits declares another number of dreams; returns how many before. */
    public int declare(int traveller, int declared)
            throws IndexOutOfBoundsException, IllegalArgumentException, IllegalStateException {
        requireTraveller(traveller);
        requireDigit(declared);
        requireWaiting(traveller);
        int before = now.declared[traveller];
        now.declared[traveller] = declared;
        return before;
    }

    /** Sings a new lullaby to one who waits; returns how many minutes were left of the old one. */
    public int sing(int traveller, int minutes)
            throws IndexOutOfBoundsException, IllegalArgumentException, IllegalStateException {
        requireTraveller(traveller);
        requireMinutes(minutes);
        requireWaiting(traveller);
        int before = now.lullaby[traveller];
        now.lullaby[traveller] = minutes;
        return before;
    }

    /** Wakes a guard: the alertness is 9; returns the one before. */
    public int wake(int guard) throws IndexOutOfBoundsException {
        requireGuard(guard);
        int before = now.alertness[guard];
        now.alertness[guard] = Border.FULLY_ALERT;
        return before;
    }

    /** Lets minutes go by; returns how many fall asleep in them. */
    public int pass(int minutes) throws IllegalArgumentException {
        requireMinutes(minutes);
        int before = now.countIn(Border.ASLEEP);
        for (int gone = 0; gone < minutes; gone++) {
            now.goOneMinute();
        }
        return now.countIn(Border.ASLEEP) - before;
    }

    // ---- the border

    /** Returns the minute. */
    public int minute() {
        return now.clock;
    }

    /** Returns how many travellers came. */
    public int travellers() {
        return now.travellerCount;
    }

    /** Returns how many of them wait. */
    public int waiting() {
        return now.countIn(Border.WAITING);
    }

    /** Returns how many of them sleep. */
    public int asleep() {
        return now.countIn(Border.ASLEEP);
    }

    /** Returns how many of them were sent back. */
    public int sentBack() {
        return now.countIn(Border.SENT_BACK);
    }

    /** Returns how many of these as a lullaby had expired. */
    public int expired() {
        return now.expiredCount;
    }

    /** Returns what was paid in all. */
    public int paid() {
        return now.till;
    }

    /** Returns the noise: the snores of all in transit, added. */
    public int noise() {
        return now.addedSnores();
    }

    /** Returns the one who waits with the smallest number; -1 if nobody waits. */
    public int nextInLine() {
        return now.firstWaiting();
    }

    // ---- travellers

    /** Returns 0 if this one waits, 1 if searched, 2 in transit, 3 asleep, 4 sent back. */
    public int stateOf(int traveller) throws IndexOutOfBoundsException {
        requireTraveller(traveller);
        return now.state[traveller];
    }

    /** Returns how many dreams are hidden. */
    public int hiddenOf(int traveller) throws IndexOutOfBoundsException {
        requireTraveller(traveller);
        return now.hiddenDreams(traveller);
    }

    /** Returns how many minutes of the lullaby are left, or were as the search began; 0 if it expired. */
    public int lullabyOf(int traveller) throws IndexOutOfBoundsException {
        requireTraveller(traveller);
        return now.lullaby[traveller];
    }

    /** Returns how many who wait are ahead of this one, by numbers; -1 if this one does not wait. */
    public int placeInLine(int traveller) throws IndexOutOfBoundsException {
        requireTraveller(traveller);
        if (now.state[traveller] != Border.WAITING) {
            return -1;
        }
        return now.waitingAhead(traveller);
    }

    /** Returns how many minutes a search would take, if it began now. */
    public int searchTime(int traveller) throws IndexOutOfBoundsException {
        requireTraveller(traveller);
        return now.searchMinutes(traveller);
    }

    // ---- guards

    /** Returns how many guards there are. */
    public int guards() {
        return now.guardCount;
    }

    /** Returns the alertness. */
    public int alertnessOf(int guard) throws IndexOutOfBoundsException {
        requireGuard(guard);
        return now.alertness[guard];
    }

    /** Returns who is searched by this one; -1 for nobody. */
    public int searches(int guard) throws IndexOutOfBoundsException {
        requireGuard(guard);
        return now.searched[guard];
    }

    /** Returns how many minutes the search goes on; 0 if this one searches nobody. */
    public int minutesToGo(int guard) throws IndexOutOfBoundsException {
        requireGuard(guard);
        return now.searchLeft[guard];
    }

    /** Returns whether this guard would find hidden dreams of that one now. */
    public boolean wouldFind(int guard, int traveller) throws IndexOutOfBoundsException {
        requireGuard(guard);
        requireTraveller(traveller);
        return now.finds(guard, traveller);
    }

    /** Returns the guard with the greatest alertness, of several the smallest number; -1 without guards. */
    public int mostAlert() {
        int most = Border.NOBODY;
        int greatest = -1;
        for (int guard = 0; guard < now.guardCount; guard++) {
            if (now.alertness[guard] > greatest) {
                most = guard;
                greatest = now.alertness[guard];
            }
        }
        return most;
    }

    // ---- what would be

    /** Returns in how many minutes this one is asleep: 0 if so now, at most 100; -1 if not by then. */
    public int minutesUntilAsleep(int traveller) throws IndexOutOfBoundsException {
        requireTraveller(traveller);
        trial.become(now);
        trial.goOn(HORIZON);
        return foreseenSleep(traveller);
    }

    /** Returns how many sleep behind the minutes, if nothing else is done. */
    public int asleepIn(int minutes) throws IllegalArgumentException {
        requireMinutes(minutes);
        trial.become(now);
        trial.goOn(minutes);
        return trial.countIn(Border.ASLEEP);
    }

    /** Returns how many dreams this one had best declare so as to be asleep the soonest; -1 if none helps. */
    public int bestToDeclare(int traveller) throws IndexOutOfBoundsException {
        requireTraveller(traveller);
        if (now.state[traveller] != Border.WAITING) {
            return -1;
        }
        int best = -1;
        int soonest = HORIZON + 1;
        for (int dreams = 0; dreams <= GREATEST_DIGIT; dreams++) {
            trial.become(now);
            trial.declared[traveller] = dreams;
            trial.goOn(HORIZON);
            int minutes = foreseenSleep(traveller);
            if (minutes >= 0 && minutes < soonest) {
                best = dreams;
                soonest = minutes;
            }
        }
        return best;
    }

    /** Returns how many guards more would have to come so that no lullaby expires; -1 if 4 do not do. */
    public int guardsWanted() {
        for (int more = 0; more <= MOST_GUARDS_WANTED; more++) {
            trial.become(now);
            for (int came = 0; came < more; came++) {
                trial.admitGuard();
            }
            trial.goOn(MOST_MINUTES);
            // Nobody arrives in a trial, so whoever expires in it waits now.
            if (trial.expiredCount == now.expiredCount) {
                return more;
            }
        }
        return -1;
    }

    /** Returns the mean alertness of guards; 0 without any. */
    public double meanAlertness() {
        if (now.guardCount == 0) {
            return 0.0;
        }
        int sum = 0;
        for (int guard = 0; guard < now.guardCount; guard++) {
            sum += now.alertness[guard];
        }
        return (double) sum / (double) now.guardCount;
    }

    /** Computes a checksum. */
    public long digest() {
        long d = DIGEST_START;
        d = mix(d, minute());
        d = mix(d, travellers());
        d = mix(d, waiting());
        d = mix(d, asleep());
        d = mix(d, sentBack());
        d = mix(d, expired());
        d = mix(d, paid());
        d = mix(d, noise());
        d = mix(d, nextInLine());
        d = mix(d, guards());
        d = mix(d, mostAlert());
        d = mix(d, asleepIn(DIGEST_MINUTES));
        d = mix(d, guardsWanted());
        return mixGuards(mixTravellers(d));
    }

    private long mixTravellers(long start) {
        // One trial tells of all travellers when they sleep.
        trial.become(now);
        trial.goOn(HORIZON);
        long d = start;
        for (int traveller = 0; traveller < now.travellerCount; traveller++) {
            d = mix(d, stateOf(traveller));
            d = mix(d, hiddenOf(traveller));
            d = mix(d, lullabyOf(traveller));
            d = mix(d, placeInLine(traveller));
            d = mix(d, searchTime(traveller));
            d = mix(d, foreseenSleep(traveller));
        }
        return d;
    }

    private long mixGuards(long start) {
        long d = start;
        for (int guard = 0; guard < now.guardCount; guard++) {
            d = mix(d, alertnessOf(guard));
            d = mix(d, searches(guard));
            d = mix(d, minutesToGo(guard));
        }
        return d;
    }

    private static long mix(long d, int x) {
        return d * DIGEST_FACTOR + x;
    }

    /** Reads from the trial, which has gone on, in how many minutes this one is asleep; -1 if not in it. */
    private int foreseenSleep(int traveller) {
        if (now.state[traveller] == Border.ASLEEP) {
            return 0;
        }
        if (trial.state[traveller] != Border.ASLEEP) {
            return -1;
        }
        return trial.asleepSince[traveller] - now.clock;
    }

    private void requireTraveller(int traveller) {
        if (!now.isTraveller(traveller)) {
            throw new IndexOutOfBoundsException("there is no such traveller");
        }
    }

    private void requireGuard(int guard) {
        if (!now.isGuard(guard)) {
            throw new IndexOutOfBoundsException("there is no such guard");
        }
    }

    private static void requireDigit(int number) {
        if (number < 0 || number > GREATEST_DIGIT) {
            throw new IllegalArgumentException("a number is not 0 to 9");
        }
    }

    private static void requireMinutes(int minutes) {
        if (minutes < 1 || minutes > MOST_MINUTES) {
            throw new IllegalArgumentException("the minutes are not 1 to 60");
        }
    }

    private void requireWaiting(int traveller) {
        if (now.state[traveller] != Border.WAITING) {
            throw new IllegalStateException("this traveller does not wait");
        }
    }

    /** All that a minute changes. */
    private static final class Border {
        static final int NOBODY = -1;

        static final int WAITING = 0;
        static final int SEARCHED = 1;
        static final int IN_TRANSIT = 2;
        static final int ASLEEP = 3;
        static final int SENT_BACK = 4;

        static final int FULLY_ALERT = 9;
        static final int ENOUGH_TO_FIND = 10;
        static final int FINE = 3;
        static final int TRANSIT_MINUTES = 5;
        static final int SHORTEST_SEARCH = 2;
        static final int NOISE_FOR_A_MINUTE = 4;

        /** A trial may have the guards that are wanted more beside those that are there. */
        static final int GUARD_ROOM = MOST_GUARDS + MOST_GUARDS_WANTED;

        int clock = 0;
        int expiredCount = 0;
        int till = 0;

        int travellerCount = 0;
        final int[] dreams = new int[MOST_TRAVELLERS];
        final int[] declared = new int[MOST_TRAVELLERS];
        final int[] snore = new int[MOST_TRAVELLERS];
        final int[] lullaby = new int[MOST_TRAVELLERS];
        final int[] state = new int[MOST_TRAVELLERS];
        final int[] transitLeft = new int[MOST_TRAVELLERS];
        final int[] asleepSince = new int[MOST_TRAVELLERS];

        int guardCount = 0;
        final int[] alertness = new int[GUARD_ROOM];
        final int[] searched = new int[GUARD_ROOM];
        final int[] searchLeft = new int[GUARD_ROOM];

        void become(Border other) {
            clock = other.clock;
            expiredCount = other.expiredCount;
            till = other.till;
            travellerCount = other.travellerCount;
            for (int traveller = 0; traveller < travellerCount; traveller++) {
                dreams[traveller] = other.dreams[traveller];
                declared[traveller] = other.declared[traveller];
                snore[traveller] = other.snore[traveller];
                lullaby[traveller] = other.lullaby[traveller];
                state[traveller] = other.state[traveller];
                transitLeft[traveller] = other.transitLeft[traveller];
                asleepSince[traveller] = other.asleepSince[traveller];
            }
            guardCount = other.guardCount;
            for (int guard = 0; guard < guardCount; guard++) {
                alertness[guard] = other.alertness[guard];
                searched[guard] = other.searched[guard];
                searchLeft[guard] = other.searchLeft[guard];
            }
        }

        void admitGuard() {
            if (guardCount >= GUARD_ROOM) {
                return;
            }
            alertness[guardCount] = FULLY_ALERT;
            searched[guardCount] = NOBODY;
            searchLeft[guardCount] = 0;
            guardCount++;
        }

        void admitTraveller(int dreamCount, int declaredCount, int loudness, int lullabyMinutes) {
            if (travellerCount >= MOST_TRAVELLERS) {
                return;
            }
            dreams[travellerCount] = dreamCount;
            declared[travellerCount] = declaredCount;
            snore[travellerCount] = loudness;
            lullaby[travellerCount] = lullabyMinutes;
            state[travellerCount] = WAITING;
            travellerCount++;
        }

        boolean isTraveller(int number) {
            return number >= 0 && number < travellerCount;
        }

        boolean isGuard(int number) {
            return number >= 0 && number < guardCount;
        }

        int countIn(int wanted) {
            int count = 0;
            for (int traveller = 0; traveller < travellerCount; traveller++) {
                if (state[traveller] == wanted) {
                    count++;
                }
            }
            return count;
        }

        int waitingAhead(int end) {
            int count = 0;
            for (int traveller = 0; traveller < travellerCount && traveller < end; traveller++) {
                if (state[traveller] == WAITING) {
                    count++;
                }
            }
            return count;
        }

        int firstWaiting() {
            for (int traveller = 0; traveller < travellerCount; traveller++) {
                if (state[traveller] == WAITING) {
                    return traveller;
                }
            }
            return NOBODY;
        }

        int addedSnores() {
            int sum = 0;
            for (int traveller = 0; traveller < travellerCount; traveller++) {
                if (state[traveller] == IN_TRANSIT) {
                    sum += snore[traveller];
                }
            }
            return sum;
        }

        int hiddenDreams(int traveller) {
            int hidden = dreams[traveller] - declared[traveller];
            return hidden > 0 ? hidden : 0;
        }

        int searchMinutes(int traveller) {
            return SHORTEST_SEARCH + declared[traveller] + addedSnores() / NOISE_FOR_A_MINUTE;
        }

        boolean finds(int guard, int traveller) {
            int hidden = hiddenDreams(traveller);
            return hidden > 0 && hidden + alertness[guard] >= ENOUGH_TO_FIND;
        }

        /** Lets minutes go by in a trial; once all sleep or are sent back, no answer needs the rest. */
        void goOn(int minutes) {
            for (int gone = 0; gone < minutes && !isSettled(); gone++) {
                goOneMinute();
            }
        }

        private boolean isSettled() {
            for (int traveller = 0; traveller < travellerCount; traveller++) {
                if (state[traveller] != ASLEEP && state[traveller] != SENT_BACK) {
                    return false;
                }
            }
            return true;
        }

        void goOneMinute() {
            advanceTransits();
            shortenLullabies();
            for (int guard = 0; guard < guardCount; guard++) {
                int traveller = searched[guard];
                if (isTraveller(traveller)) {
                    searchOn(guard, traveller);
                } else {
                    beginSearchOrRest(guard);
                }
            }
            clock++;
        }

        private void advanceTransits() {
            for (int traveller = 0; traveller < travellerCount; traveller++) {
                if (state[traveller] == IN_TRANSIT) {
                    transitLeft[traveller]--;
                    if (transitLeft[traveller] <= 0) {
                        state[traveller] = ASLEEP;
                        asleepSince[traveller] = clock + 1;
                    }
                }
            }
        }

        private void shortenLullabies() {
            for (int traveller = 0; traveller < travellerCount; traveller++) {
                if (state[traveller] == WAITING) {
                    lullaby[traveller]--;
                    if (lullaby[traveller] <= 0) {
                        state[traveller] = SENT_BACK;
                        expiredCount++;
                    }
                }
            }
        }

        private void beginSearchOrRest(int guard) {
            int traveller = firstWaiting();
            if (isTraveller(traveller)) {
                searched[guard] = traveller;
                searchLeft[guard] = searchMinutes(traveller);
                state[traveller] = SEARCHED;
            } else {
                alertness[guard] = Math.min(alertness[guard] + 1, FULLY_ALERT);
            }
        }

        private void searchOn(int guard, int traveller) {
            searchLeft[guard]--;
            if (searchLeft[guard] > 0) {
                return;
            }
            if (finds(guard, traveller)) {
                till += FINE * hiddenDreams(traveller);
                state[traveller] = SENT_BACK;
            } else {
                state[traveller] = IN_TRANSIT;
                transitLeft[traveller] = TRANSIT_MINUTES;
            }
            searched[guard] = NOBODY;
            alertness[guard] = Math.max(alertness[guard] - 1, 0);
        }
    }
}
