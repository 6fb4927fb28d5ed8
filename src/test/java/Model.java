import java.util.ArrayList;
import java.util.List;

/** The document once more, written apart from the class and as plainly as can be, for RandomRunsTest. */
final class Model {
    private static final class Traveller {
        int dreams;
        int declared;
        int snore;
        int lullaby;
        int state = 0;
        int toGo = 0;

        Traveller copy() {
            Traveller other = new Traveller();
            other.dreams = dreams;
            other.declared = declared;
            other.snore = snore;
            other.lullaby = lullaby;
            other.state = state;
            other.toGo = toGo;
            return other;
        }

        int hidden() {
            return dreams > declared ? dreams - declared : 0;
        }
    }

    private static final class Guard {
        int alertness = 9;
        int searched = -1;
        int toGo = 0;

        Guard copy() {
            Guard other = new Guard();
            other.alertness = alertness;
            other.searched = searched;
            other.toGo = toGo;
            return other;
        }

        boolean finds(Traveller one) {
            return one.hidden() != 0 && one.hidden() + alertness > 9;
        }
    }

    private final List<Traveller> travellers = new ArrayList<>();
    private final List<Guard> guards = new ArrayList<>();
    private int minute = 0;
    private int expired = 0;
    private int paid = 0;

    /** What is due on a call by its name, an exception as "throws." and its name. */
    Object call(String name, int... a) {
        String refusal = refusal(name, a);
        return refusal == null ? answer(name, a) : "throws." + refusal;
    }

    private String refusal(String name, int[] a) {
        switch (name) {
            case "addGuard":
                return guards.size() == 4 ? "IllegalStateException" : null;
            case "arrive":
                if (!digit(a[0]) || !digit(a[1]) || !digit(a[2]) || !hour(a[3])) {
                    return "IllegalArgumentException";
                }
                return travellers.size() == 24 ? "IllegalStateException" : null;
            case "declare":
            case "sing":
                if (!came(a[0])) {
                    return "IndexOutOfBoundsException";
                }
                if (name.equals("declare") ? !digit(a[1]) : !hour(a[1])) {
                    return "IllegalArgumentException";
                }
                return travellers.get(a[0]).state != 0 ? "IllegalStateException" : null;
            case "pass":
            case "asleepIn":
                return hour(a[0]) ? null : "IllegalArgumentException";
            case "wake":
            case "alertnessOf":
            case "searches":
            case "minutesToGo":
                return guards(a[0]) ? null : "IndexOutOfBoundsException";
            case "wouldFind":
                return guards(a[0]) && came(a[1]) ? null : "IndexOutOfBoundsException";
            case "stateOf":
            case "hiddenOf":
            case "lullabyOf":
            case "placeInLine":
            case "searchTime":
            case "minutesUntilAsleep":
            case "bestToDeclare":
                return came(a[0]) ? null : "IndexOutOfBoundsException";
            default:
                return null;
        }
    }

    private Object answer(String name, int[] a) {
        switch (name) {
            case "addGuard": guards.add(new Guard()); return guards.size() - 1;
            case "arrive": return arrive(a);
            case "declare": {
                int before = travellers.get(a[0]).declared;
                travellers.get(a[0]).declared = a[1];
                return before;
            }
            case "sing": {
                int before = travellers.get(a[0]).lullaby;
                travellers.get(a[0]).lullaby = a[1];
                return before;
            }
            case "wake": {
                int before = guards.get(a[0]).alertness;
                guards.get(a[0]).alertness = 9;
                return before;
            }
            case "pass": {
                int before = inState(3);
                run(a[0]);
                return inState(3) - before;
            }
            case "minute": return minute;
            case "travellers": return travellers.size();
            case "waiting": return inState(0);
            case "asleep": return inState(3);
            case "sentBack": return inState(4);
            case "expired": return expired;
            case "paid": return paid;
            case "noise": return noise();
            case "nextInLine": return next();
            case "stateOf": return travellers.get(a[0]).state;
            case "hiddenOf": return travellers.get(a[0]).hidden();
            case "lullabyOf": return travellers.get(a[0]).lullaby;
            case "placeInLine": return place(a[0]);
            case "searchTime": return time(travellers.get(a[0]));
            case "guards": return guards.size();
            case "alertnessOf": return guards.get(a[0]).alertness;
            case "searches": return guards.get(a[0]).searched;
            case "minutesToGo": return guards.get(a[0]).toGo;
            case "wouldFind": return guards.get(a[0]).finds(travellers.get(a[1]));
            case "mostAlert": return mostAlert();
            case "minutesUntilAsleep": return copy().untilAsleep(a[0]);
            case "asleepIn": {
                Model other = copy();
                other.run(a[0]);
                return other.inState(3);
            }
            case "bestToDeclare": return best(a[0]);
            case "guardsWanted": return wanted();
            case "meanAlertness": return mean();
            case "digest": return digest();
            default: throw new IllegalStateException("no call " + name);
        }
    }

    private static boolean digit(int number) {
        return 0 <= number && number <= 9;
    }

    private static boolean hour(int minutes) {
        return 1 <= minutes && minutes <= 60;
    }

    private boolean came(int number) {
        return 0 <= number && number < travellers.size();
    }

    private boolean guards(int number) {
        return 0 <= number && number < guards.size();
    }

    private int arrive(int[] a) {
        Traveller one = new Traveller();
        one.dreams = a[0];
        one.declared = a[1];
        one.snore = a[2];
        one.lullaby = a[3];
        travellers.add(one);
        return travellers.size() - 1;
    }

    private int inState(int state) {
        return (int) travellers.stream().filter(one -> one.state == state).count();
    }

    private int noise() {
        return travellers.stream().filter(one -> one.state == 2).mapToInt(one -> one.snore).sum();
    }

    private int next() {
        for (int i = 0; i < travellers.size(); i++) {
            if (travellers.get(i).state == 0) {
                return i;
            }
        }
        return -1;
    }

    private int place(int number) {
        if (travellers.get(number).state != 0) {
            return -1;
        }
        return (int) travellers.subList(0, number).stream().filter(one -> one.state == 0).count();
    }

    private int time(Traveller one) {
        return 2 + one.declared + noise() / 4;
    }

    private int mostAlert() {
        for (int alertness = 9; alertness >= 0; alertness--) {
            for (int i = 0; i < guards.size(); i++) {
                if (guards.get(i).alertness == alertness) {
                    return i;
                }
            }
        }
        return -1;
    }

    private double mean() {
        return guards.stream().mapToInt(guard -> guard.alertness).average().orElse(0);
    }

    private void run(int minutes) {
        for (int i = 0; i < minutes; i++) {
            oneMinute();
        }
    }

    private void oneMinute() {
        for (Traveller one : travellers) {
            if (one.state == 2 && --one.toGo == 0) {
                one.state = 3;
            }
        }
        for (Traveller one : travellers) {
            if (one.state == 0 && --one.lullaby == 0) {
                one.state = 4;
                expired++;
            }
        }
        for (Guard guard : guards) {
            if (guard.searched >= 0) {
                if (--guard.toGo == 0) {
                    endSearch(guard, travellers.get(guard.searched));
                }
            } else if (next() >= 0) {
                guard.searched = next();
                guard.toGo = time(travellers.get(guard.searched));
                travellers.get(guard.searched).state = 1;
            } else if (guard.alertness < 9) {
                guard.alertness++;
            }
        }
        minute++;
    }

    private void endSearch(Guard guard, Traveller one) {
        if (guard.finds(one)) {
            paid += 3 * one.hidden();
            one.state = 4;
        } else {
            one.state = 2;
            one.toGo = 5;
        }
        guard.searched = -1;
        if (guard.alertness > 0) {
            guard.alertness--;
        }
    }

    private Model copy() {
        Model other = new Model();
        travellers.forEach(one -> other.travellers.add(one.copy()));
        guards.forEach(guard -> other.guards.add(guard.copy()));
        other.minute = minute;
        other.expired = expired;
        other.paid = paid;
        return other;
    }

    /** Goes on itself: to be asked of a copy. */
    private int untilAsleep(int number) {
        for (int gone = 0; gone <= 100; gone++) {
            if (travellers.get(number).state == 3) {
                return gone;
            }
            oneMinute();
        }
        return -1;
    }

    private int best(int number) {
        if (travellers.get(number).state != 0) {
            return -1;
        }
        int best = -1;
        int soonest = Integer.MAX_VALUE;
        for (int declared = 9; declared >= 0; declared--) {
            Model other = copy();
            other.travellers.get(number).declared = declared;
            int minutes = other.untilAsleep(number);
            if (minutes != -1 && minutes <= soonest) {
                best = declared;
                soonest = minutes;
            }
        }
        return best;
    }

    private int wanted() {
        for (int more = 0; more <= 4; more++) {
            Model other = copy();
            for (int i = 0; i < more; i++) {
                other.guards.add(new Guard());
            }
            other.run(60);
            if (other.expiredOfThoseWhoWaitIn(this) == 0) {
                return more;
            }
        }
        return -1;
    }

    private int expiredOfThoseWhoWaitIn(Model before) {
        int count = 0;
        for (int i = 0; i < travellers.size(); i++) {
            if (before.travellers.get(i).state == 0 && travellers.get(i).state == 4 && travellers.get(i).lullaby == 0) {
                count++;
            }
        }
        return count;
    }

    private long digest() {
        List<Object> numbers = new ArrayList<>();
        for (String name : new String[] {"minute", "travellers", "waiting", "asleep", "sentBack", "expired", "paid",
                "noise", "nextInLine", "guards", "mostAlert"}) {
            numbers.add(call(name));
        }
        numbers.add(call("asleepIn", 30));
        numbers.add(call("guardsWanted"));
        for (int i = 0; i < travellers.size(); i++) {
            for (String name : new String[] {"stateOf", "hiddenOf", "lullabyOf", "placeInLine", "searchTime",
                    "minutesUntilAsleep"}) {
                numbers.add(call(name, i));
            }
        }
        for (int i = 0; i < guards.size(); i++) {
            for (String name : new String[] {"alertnessOf", "searches", "minutesToGo"}) {
                numbers.add(call(name, i));
            }
        }
        long d = 2131;
        for (Object number : numbers) {
            d = d * 31 + (Integer) number;
        }
        return d;
    }
}
