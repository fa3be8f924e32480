import java.util.ArrayList;
import java.util.Arrays;
import java.util.List;

/** The document once more, slowly and by other means: tables of seatings, rooms minute by minute. */
final class SlowDeskMoves {
    private static final long NEVER = Long.MIN_VALUE / 2;

    private int desks = 0;
    private final List<int[]> wishes = new ArrayList<>();
    private final List<boolean[]> barred = new ArrayList<>();
    private final List<Integer> old = new ArrayList<>();
    private int[] seating = null;
    private int seatingWorth = 0;
    private final List<int[]> steps = new ArrayList<>();
    private boolean stuck = false;

    private final List<Integer> rooms = new ArrayList<>();
    private final List<int[]> calendars = new ArrayList<>();
    private final List<int[]> bookings = new ArrayList<>();

    int desk() {
        state(desks < 14);
        seating = null;
        return desks++;
    }

    int person() {
        state(old.size() < 10);
        seating = null;
        wishes.add(new int[14]);
        barred.add(new boolean[14]);
        old.add(-1);
        return old.size() - 1;
    }

    int wish(int person, int desk, int worth) {
        argument(isPerson(person) && isDesk(desk) && worth >= 0 && worth <= 1000);
        seating = null;
        int was = wishes.get(person)[desk];
        wishes.get(person)[desk] = worth;
        return was;
    }

    boolean bar(int person, int desk, boolean on) {
        argument(isPerson(person) && isDesk(desk));
        seating = null;
        boolean was = barred.get(person)[desk];
        barred.get(person)[desk] = on;
        return was;
    }

    int sits(int person, int desk) {
        argument(isPerson(person) && (desk == -1 || isDesk(desk)));
        int owner = desk == -1 ? -1 : old.indexOf(desk);
        state(owner == -1 || owner == person);
        seating = null;
        return old.set(person, desk);
    }

    int seat() {
        int[] made = bestSeating(-1);
        if (made == null) {
            seating = null;
            return -1;
        }
        seating = made;
        seatingWorth = worth(made);
        walk();
        return seatingWorth;
    }

    int deskOf(int person) {
        argument(isPerson(person));
        return seating == null ? -1 : seating[person];
    }

    int moved() {
        if (seating == null) {
            return -1;
        }
        int count = 0;
        for (int p = 0; p < old.size(); p++) {
            count += old.get(p) != -1 && old.get(p) != seating[p] ? 1 : 0;
        }
        return count;
    }

    int steps() {
        state(seating != null);
        return stuck ? -2 : steps.size();
    }

    /** Not of the document: so that a test knows how many to ask for. */
    int stepsThatCanBeGone() {
        return seating == null ? 0 : steps.size();
    }

    int step(int k, int what) {
        argument(what >= 0 && what <= 2 && k >= 0);
        state(seating != null);
        argument(k < steps.size());
        return steps.get(k)[what];
    }

    int settle() {
        state(seating != null);
        int others = 0;
        for (int p = 0; p < old.size(); p++) {
            others += old.set(p, seating[p]) != seating[p] ? 1 : 0;
        }
        seating = null;
        return others;
    }

    int worthOf(int person) {
        argument(isPerson(person));
        state(seating != null);
        return seatingWorth - worth(bestSeating(person));
    }

    int room(int places) {
        argument(places >= 1 && places <= 200);
        state(rooms.size() < 8);
        rooms.add(places);
        int[] calendar = new int[10080];
        Arrays.fill(calendar, -1);
        calendars.add(calendar);
        return rooms.size() - 1;
    }

    int book(int from, int to, int persons) {
        argument(persons >= 1 && persons <= 200);
        argument(from >= 0 && from <= 10080 && to >= 0 && to <= 10080 && from < to);
        state(bookings.size() < 300);
        for (int places = persons; places <= 200; places++) {
            for (int r = 0; r < rooms.size(); r++) {
                if (rooms.get(r) == places && isEmpty(r, from, to)) {
                    Arrays.fill(calendars.get(r), from, to, bookings.size());
                    bookings.add(new int[] {r, places - persons, 1});
                    return bookings.size() - 1;
                }
            }
        }
        return -1;
    }

    boolean cancel(int booking) {
        argument(booking >= 0 && booking < bookings.size());
        int[] held = bookings.get(booking);
        boolean was = held[2] == 1;
        held[2] = 0;
        int[] calendar = calendars.get(held[0]);
        for (int minute = 0; minute < 10080; minute++) {
            calendar[minute] = calendar[minute] == booking ? -1 : calendar[minute];
        }
        return was;
    }

    int roomOf(int booking) {
        argument(booking >= 0 && booking < bookings.size());
        return bookings.get(booking)[0];
    }

    int inside(int room, int minute) {
        argument(room >= 0 && room < rooms.size() && minute >= 0 && minute <= 10079);
        return calendars.get(room)[minute];
    }

    int gap(int room, int from, int minutes) {
        argument(room >= 0 && room < rooms.size());
        argument(from >= 0 && from <= 10079 && minutes >= 1 && minutes <= 10080);
        int run = 0;
        for (int minute = from; minute < 10080; minute++) {
            run = calendars.get(room)[minute] == -1 ? run + 1 : 0;
            if (run == minutes) {
                return minute - minutes + 1;
            }
        }
        return -1;
    }

    int waste() {
        int sum = 0;
        for (int[] booking : bookings) {
            sum += booking[2] * booking[1];
        }
        return sum;
    }

    private static void argument(boolean legal) {
        if (!legal) {
            throw new IllegalArgumentException();
        }
    }

    private static void state(boolean legal) {
        if (!legal) {
            throw new IllegalStateException();
        }
    }

    private boolean isPerson(int person) {
        return person >= 0 && person < old.size();
    }

    private boolean isDesk(int desk) {
        return desk >= 0 && desk < desks;
    }

    private boolean isEmpty(int room, int from, int to) {
        for (int minute = from; minute < to; minute++) {
            if (calendars.get(room)[minute] != -1) {
                return false;
            }
        }
        return true;
    }

    private int worth(int[] seats) {
        int sum = 0;
        for (int p = 0; p < seats.length; p++) {
            sum += seats[p] == -1 ? 0 : wishes.get(p)[seats[p]];
        }
        return sum;
    }

    /** For each person and each set of desks that are taken already: the best score of the persons from it on. */
    private int[] bestSeating(int without) {
        int persons = old.size();
        int sets = 1 << desks;
        long[][] best = new long[persons + 1][sets];
        for (int p = persons - 1; p >= 0; p--) {
            for (int taken = 0; taken < sets; taken++) {
                best[p][taken] = p == without ? best[p + 1][taken] : NEVER;
                for (int d = 0; d < desks && p != without; d++) {
                    best[p][taken] = Math.max(best[p][taken], score(best, p, taken, d));
                }
            }
        }
        if (best[0][0] <= NEVER / 2) {
            return null;
        }
        int[] seats = new int[persons];
        int taken = 0;
        for (int p = 0; p < persons; p++) {
            seats[p] = -1;
            for (int d = 0; d < desks && p != without && seats[p] == -1; d++) {
                seats[p] = score(best, p, taken, d) == best[p][taken] ? d : -1;
            }
            taken |= seats[p] == -1 ? 0 : 1 << seats[p];
        }
        return seats;
    }

    private long score(long[][] best, int person, int taken, int desk) {
        if ((taken >> desk & 1) == 1 || barred.get(person)[desk]) {
            return NEVER;
        }
        boolean moves = old.get(person) != -1 && old.get(person) != desk;
        return best[person + 1][taken | 1 << desk] + wishes.get(person)[desk] * 100L - (moves ? 1 : 0);
    }

    private void walk() {
        steps.clear();
        stuck = false;
        List<Integer> places = new ArrayList<>(old);
        for (;;) {
            int goer = -1;
            int notHome = -1;
            for (int p = old.size() - 1; p >= 0; p--) {
                if (places.get(p) != seating[p]) {
                    notHome = p;
                    goer = places.contains(seating[p]) ? goer : p;
                }
            }
            if (notHome == -1) {
                return;
            }
            int goal = goer == -1 ? 0 : seating[goer];
            if (goer == -1) {
                goer = notHome;
                while (goal < desks && places.contains(goal)) {
                    goal++;
                }
            }
            if (goal == desks) {
                stuck = true;
                return;
            }
            steps.add(new int[] {goer, places.get(goer), goal});
            places.set(goer, goal);
        }
    }
}
