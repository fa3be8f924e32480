/**
 * All that later calls can show of an object, as a text: two objects with the same text have had the
 * same calls that did something. It takes up to some 430 calls, and the object is used up behind it.
 */
final class Traces {
    private static final int[] MINUTES = {0, 10, 19, 10079};

    private final DeskMoves x;
    private final StringBuilder text = new StringBuilder();
    private int persons = 0;
    private int desks = 0;

    private Traces(DeskMoves x) {
        this.x = x;
    }

    static String of(DeskMoves x) {
        Traces traces = new Traces(x);
        traces.seating();
        traces.steps();
        traces.rooms();
        traces.bookings();
        traces.oldDesks();
        traces.wishes();
        traces.numbersNext();
        return traces.text.toString();
    }

    private String add(String what, Checks.Call call) {
        String outcome = Checks.outcome(call);
        text.append(what).append(' ').append(outcome).append("; ");
        return outcome;
    }

    private static boolean isThere(String outcome) {
        return !outcome.equals("throws.IllegalArgumentException");
    }

    private void seating() {
        add("moved", x::moved);
        while (isThere(add("deskOf", () -> x.deskOf(persons)))) {
            add("worthOf", () -> x.worthOf(persons));
            persons++;
        }
    }

    private void steps() {
        add("steps", x::steps);
        boolean more = true;
        for (int k = 0; k < 15 && more; k++) {
            int step = k;
            more = !add("step", () -> x.step(step, 0)).startsWith("throws.");
            for (int what = 1; what < 3 && more; what++) {
                int asked = what;
                add("step", () -> x.step(step, asked));
            }
        }
    }

    private void rooms() {
        add("waste", x::waste);
        boolean more = true;
        for (int r = 0; r < 9 && more; r++) {
            int room = r;
            more = isThere(add("gap", () -> x.gap(room, 0, 1)));
            for (int k = 0; k < MINUTES.length && more; k++) {
                int minute = MINUTES[k];
                add("inside", () -> x.inside(room, minute));
            }
        }
    }

    private void bookings() {
        for (int b : new int[] {0, 1, 2, 3, 4, 299, 300}) {
            add("roomOf", () -> x.roomOf(b));
            add("cancel", () -> x.cancel(b) ? 1 : 0);
        }
    }

    private void oldDesks() {
        for (int p = 0; p < persons; p++) {
            int person = p;
            add("sits", () -> x.sits(person, DeskMoves.NONE));
        }
    }

    private void wishes() {
        boolean more = persons > 0;
        for (desks = 0; more; desks += more ? 1 : 0) {
            more = isThere(add("wish", () -> x.wish(0, desks, 0)));
        }
        for (int k = 0; k < persons * desks; k++) {
            int person = k / desks;
            int desk = k % desks;
            if (person > 0) {
                add("wish", () -> x.wish(person, desk, 0));
            }
            add("bar", () -> x.bar(person, desk, false) ? 1 : 0);
        }
    }

    private void numbersNext() {
        add("seat", x::seat);
        add("desk", x::desk);
        add("person", x::person);
        add("room", () -> x.room(1));
        add("book", () -> x.book(5000, 5001, 1));
    }
}
