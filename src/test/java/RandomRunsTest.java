import java.util.Random;

/** Runs of calls by chance (from fixed seeds) on the class and on the slow one: the same answers. */
public final class RandomRunsTest {
    // Behind so many calls what an object answers is free.
    private static final int LAST_CALL = 512;

    private final Random chance;
    private final DeskMoves fast = new DeskMoves();
    private final SlowDeskMoves slow = new SlowDeskMoves();
    private final String name;
    private int desks = 0;
    private int persons = 0;
    private int booked = 0;
    private int calls = 0;

    private RandomRunsTest(int seed) {
        chance = new Random(seed);
        name = "seed " + seed + ": ";
    }

    public static void main(String[] args) {
        for (int seed = 0; seed < 900; seed++) {
            new RandomRunsTest(seed).seatingRun(2 + seed % 7, 1 + seed % 6, seed % 3 == 0 ? 2 : 5);
        }
        for (int seed = 1000; seed < 1020; seed++) {
            new RandomRunsTest(seed).seatingRun(10 + seed % 5, 10, seed % 2 == 0 ? 3 : 1001);
        }
        for (int seed = 2000; seed < 2150; seed++) {
            new RandomRunsTest(seed).roomRun(seed % 3 == 0 ? 200 : 10080, seed % 2 == 0 ? 40 : 2000);
        }
        for (int seed = 3000; seed < 3100; seed++) {
            new RandomRunsTest(seed).mixedRun();
        }
        for (int seed = 4000; seed < 4060; seed++) {
            new RandomRunsTest(seed).fullOfficeRun(7 + seed % 4, seed / 4 % 5);
        }
        Checks.end();
    }

    private void same(String call, Checks.Call due, Checks.Call got) {
        if (calls < LAST_CALL) {
            calls++;
            Checks.told(name + call, Checks.outcome(due), Checks.outcome(got));
        }
    }

    private void seatingRun(int maxDesks, int maxPersons, int wishes) {
        for (int k = 0; calls < LAST_CALL; k++) {
            boolean full = desks == maxDesks && persons == maxPersons;
            if (chance.nextInt(10) == 0 || !full && k < 2 * (maxDesks + maxPersons)) {
                grow(maxDesks, maxPersons);
            }
            change(wishes);
            if (chance.nextInt(maxDesks > 9 ? 12 : 6) == 0) {
                seatAndAsk();
            }
        }
    }

    /** Nearly all have old desks and many seatings are worth the same: rings, desks all taken, ties. */
    private void fullOfficeRun(int maxPersons, int freeDesks) {
        while (persons < maxPersons || desks < Math.min(14, maxPersons + freeDesks)) {
            grow(maxPersons + freeDesks, maxPersons);
        }
        sitAnywhere();
        int wishes = 1 + chance.nextInt(3);
        int bars = chance.nextInt(4);
        for (int k = 0; k < persons * desks; k++) {
            int p = k / desks;
            int d = k % desks;
            int worth = 1000 - chance.nextInt(wishes);
            boolean on = chance.nextInt(8) < bars;
            same("wish" + args(p, d, worth), () -> slow.wish(p, d, worth), () -> fast.wish(p, d, worth));
            same("bar" + args(p, d, on ? 1 : 0), () -> slow.bar(p, d, on) ? 1 : 0, () -> fast.bar(p, d, on) ? 1 : 0);
        }
        while (calls < LAST_CALL) {
            seatAndAsk();
            change(1001);
        }
    }

    private void sitAnywhere() {
        int first = chance.nextInt(desks);
        for (int p = 0; p < persons; p++) {
            int person = p;
            // The factor has no divisor in common with the 7 .. 14 desks, so no desk comes twice.
            int old = chance.nextInt(8) == 0 ? -1 : (first + p * (desks % 3 == 0 ? 5 : 3)) % desks;
            same("sits" + args(p, old), () -> slow.sits(person, old), () -> fast.sits(person, old));
        }
    }

    private void mixedRun() {
        while (calls < LAST_CALL) {
            switch (chance.nextInt(4)) {
                case 0 -> grow(7, 6);
                case 1 -> change(4);
                case 2 -> changeRooms(300, 60);
                default -> seatNowAndThen();
            }
        }
    }

    private void seatNowAndThen() {
        if (chance.nextInt(6) == 0) {
            seatAndAsk();
        }
    }

    private void grow(int maxDesks, int maxPersons) {
        if (chance.nextBoolean() && desks < maxDesks) {
            same("desk()", slow::desk, fast::desk);
            desks++;
        } else if (persons < maxPersons && persons <= desks) {
            same("person()", slow::person, fast::person);
            persons++;
        }
    }

    private int near(int count) {
        return chance.nextInt(40) == 0 ? chance.nextInt(3) - 1 + chance.nextInt(2) * count : chance.nextInt(count + 1);
    }

    private void change(int wishes) {
        int p = near(persons);
        int d = near(desks);
        int worth = chance.nextInt(50) == 0 ? -1 + chance.nextInt(2) * 1002 : chance.nextInt(wishes);
        int old = chance.nextInt(6) == 0 ? -1 : d;
        boolean on = chance.nextInt(3) == 0;
        switch (chance.nextInt(6)) {
            case 0, 1, 2 -> same("wish" + args(p, d, worth), () -> slow.wish(p, d, worth), () -> fast.wish(p, d, worth));
            case 3 -> same("bar" + args(p, d, on ? 1 : 0),
                () -> slow.bar(p, d, on) ? 1 : 0, () -> fast.bar(p, d, on) ? 1 : 0);
            case 4 -> same("sits" + args(p, old), () -> slow.sits(p, old), () -> fast.sits(p, old));
            default -> askLittle();
        }
    }

    private void seatAndAsk() {
        same("seat()", slow::seat, fast::seat);
        ask();
        if (chance.nextInt(4) == 0) {
            same("settle()", slow::settle, fast::settle);
        }
    }

    private void askLittle() {
        int p = near(persons);
        int k = chance.nextInt(8) - 1;
        int what = chance.nextInt(5) - 1;
        same("deskOf" + args(p), () -> slow.deskOf(p), () -> fast.deskOf(p));
        same("step" + args(k, what), () -> slow.step(k, what), () -> fast.step(k, what));
        same("worthOf" + args(p), () -> slow.worthOf(p), () -> fast.worthOf(p));
    }

    private void ask() {
        same("moved()", slow::moved, fast::moved);
        same("steps()", slow::steps, fast::steps);
        for (int p = -1; p <= persons; p++) {
            int asked = p;
            same("deskOf" + args(p), () -> slow.deskOf(asked), () -> fast.deskOf(asked));
        }
        for (int k = 0; k <= slow.stepsThatCanBeGone(); k++) {
            for (int what = 0; what <= 2; what++) {
                int step = k;
                int asked = what;
                same("step" + args(k, what), () -> slow.step(step, asked), () -> fast.step(step, asked));
            }
        }
        int p = near(persons);
        same("worthOf" + args(p), () -> slow.worthOf(p), () -> fast.worthOf(p));
        same("moved() behind worthOf", slow::moved, fast::moved);
    }

    private void roomRun(int end, int length) {
        while (calls < LAST_CALL) {
            changeRooms(end, length);
        }
    }

    private void changeRooms(int end, int length) {
        int r = near(8);
        int b = near(booked);
        int from = chance.nextInt(30) == 0 ? -1 + chance.nextInt(2) * 10081 : chance.nextInt(end);
        int minutes = chance.nextInt(40) == 0 ? chance.nextInt(3) * 5040 : 1 + chance.nextInt(length);
        int to = Math.min(from + minutes, 10080 + chance.nextInt(20) / 19);
        int heads = chance.nextInt(50) == 0 ? chance.nextInt(2) * 201 : 1 + chance.nextInt(12);
        switch (chance.nextInt(12)) {
            case 0 -> same("room" + args(heads), () -> slow.room(heads), () -> fast.room(heads));
            case 1 -> same("cancel" + args(b), () -> slow.cancel(b) ? 1 : 0, () -> fast.cancel(b) ? 1 : 0);
            case 2 -> same("roomOf" + args(b), () -> slow.roomOf(b), () -> fast.roomOf(b));
            case 3 -> same("inside" + args(r, from), () -> slow.inside(r, from), () -> fast.inside(r, from));
            case 4 -> same("gap" + args(r, from, minutes),
                () -> slow.gap(r, from, minutes), () -> fast.gap(r, from, minutes));
            case 5 -> same("waste()", slow::waste, fast::waste);
            default -> same("book" + args(from, to, heads), () -> countBooked(slow.book(from, to, heads)),
                () -> fast.book(from, to, heads));
        }
    }

    private int countBooked(int booking) {
        booked = Math.max(booked, booking + 1);
        return booking;
    }

    private static String args(int... numbers) {
        StringBuilder text = new StringBuilder("(");
        for (int number : numbers) {
            text.append(text.length() > 1 ? ", " : "").append(number);
        }
        return text.append(")").toString();
    }
}
