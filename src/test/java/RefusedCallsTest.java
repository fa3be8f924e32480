import java.util.function.Supplier;

/**
 * A call that throws changes nothing: in each state that can be told apart, each kind of refused
 * call is made on an object, and all that later calls show of it must be what they show of a second
 * object that never had the call. So are the calls that only ask, and those that answer NONE.
 */
public final class RefusedCallsTest {
    private static final int NONE = DeskMoves.NONE;
    private static final String ARGUMENT = "throws.IllegalArgumentException";
    private static final String STATE = "throws.IllegalStateException";

    /** A call of an object that is not made yet. */
    interface CallOn {
        long answer(DeskMoves x);
    }

    private final String name;
    private final Supplier<DeskMoves> made;
    private final String untouched;

    private RefusedCallsTest(String name, Supplier<DeskMoves> made) {
        this.name = name;
        this.made = made;
        untouched = Traces.of(made.get());
    }

    public static void main(String[] args) {
        newObject();
        seatedOffice();
        officeWithoutSeating();
        officeWithoutAnySeating();
        stuckOffice();
        fullOffice();
        fullBookings();
        Checks.end();
    }

    private void refused(String call, String due, CallOn tried) {
        DeskMoves x = made.get();
        Checks.about("A call that throws changes nothing, " + name);
        Checks.told(call, due, Checks.outcome(() -> tried.answer(x)));
        Checks.told(call + ": later calls", untouched, Traces.of(x));
    }

    private void argument(String call, CallOn refused) {
        refused(call, ARGUMENT, refused);
    }

    private void state(String call, CallOn refused) {
        refused(call, STATE, refused);
    }

    private void answers(String call, long due, CallOn asked) {
        refused(call, Long.toString(due), asked);
    }

    private static DeskMoves smallOffice() {
        DeskMoves x = Made.office(4, 3);
        x.sits(0, 1);
        x.sits(1, 0);
        x.wish(0, 0, 7);
        x.wish(1, 1, 6);
        x.wish(2, 1, 5);
        x.wish(2, 3, 1000);
        x.bar(2, 3, true);
        x.room(5);
        x.room(3);
        x.book(10, 20, 2);
        x.book(0, 10080, 4);
        x.book(30, 40, 1);
        x.cancel(2);
        return x;
    }

    private static DeskMoves seated() {
        DeskMoves x = smallOffice();
        x.seat();
        return x;
    }

    private static void newObject() {
        RefusedCallsTest test = new RefusedCallsTest("a new object", DeskMoves::new);
        test.argument("Promise 4, wish", x -> x.wish(0, 0, 0));
        test.argument("Promise 5, bar", x -> x.bar(0, 0, true) ? 1 : 0);
        test.argument("Promise 6, sits", x -> x.sits(0, NONE));
        test.argument("Promise 8, deskOf", x -> x.deskOf(0));
        test.state("Promise 10, steps", DeskMoves::steps);
        test.argument("Promise 11, step, k", x -> x.step(-1, 0));
        test.argument("Promise 11, step, what", x -> x.step(0, 3));
        test.state("Promise 11, step", x -> x.step(0, 0));
        test.state("Promise 12, settle", DeskMoves::settle);
        test.argument("Promise 13, worthOf", x -> x.worthOf(0));
        test.argument("Promise 14, room(0)", x -> x.room(0));
        test.argument("Promise 14, room(201)", x -> x.room(201));
        test.argument("Promise 15, book for nobody", x -> x.book(0, 1, 0));
        test.argument("Promise 16, cancel", x -> x.cancel(0) ? 1 : 0);
        test.argument("Promise 17, roomOf", x -> x.roomOf(0));
        test.argument("Promise 18, inside", x -> x.inside(0, 0));
        test.argument("Promise 19, gap", x -> x.gap(0, 0, 1));
        test.answers("Promise 15, book answers NONE", NONE, x -> x.book(0, 1, 1));
        test.answers("Promise 9, moved", NONE, DeskMoves::moved);
        test.answers("Promise 20, waste", 0, DeskMoves::waste);
    }

    private static void seatedOffice() {
        RefusedCallsTest test = new RefusedCallsTest("a seating is made", RefusedCallsTest::seated);
        for (int wrong : new int[] {Integer.MIN_VALUE, -2, 300, Integer.MAX_VALUE}) {
            test.wrongNumbers(wrong);
        }
        test.wrongPerson(-1);
        test.wrongPerson(3);
        test.wrongDesk(4);
        test.argument("Promise 4, desk -1", x -> x.wish(0, NONE, 1));
        test.argument("Promise 5, desk -1", x -> x.bar(0, NONE, true) ? 1 : 0);
        test.argument("Promise 4, worth -1", x -> x.wish(2, 1, -1));
        test.argument("Promise 4, worth 1001", x -> x.wish(2, 1, 1001));
        test.state("Promise 6, another one's desk", x -> x.sits(2, 0));
        test.state("Promise 6, another one's desk, for one who has one", x -> x.sits(0, 0));
        test.argument("Promise 11, k", x -> x.step(4, 0));
        test.argument("Promise 11, k -1", x -> x.step(-1, 0));
        test.argument("Promise 11, what 3", x -> x.step(0, 3));
        test.argument("Promise 11, what -1", x -> x.step(0, -1));
        test.argument("Promise 14, room(0)", x -> x.room(0));
        test.argument("Promise 14, room(201)", x -> x.room(201));
        test.wrongBookings();
        test.seatingIsAsked();
        test.roomsAreAsked();
    }

    private void wrongNumbers(int wrong) {
        wrongPerson(wrong);
        wrongDesk(wrong);
        argument("Promise 11, k " + wrong, x -> x.step(wrong, 0));
        argument("Promise 11, what " + wrong, x -> x.step(0, wrong));
        argument("Promise 14, places " + wrong, x -> x.room(wrong));
        argument("Promise 15, persons " + wrong, x -> x.book(50, 60, wrong));
        argument("Promise 16, booking " + wrong, x -> x.cancel(wrong) ? 1 : 0);
        argument("Promise 17, booking " + wrong, x -> x.roomOf(wrong));
        argument("Promise 18, room " + wrong, x -> x.inside(wrong, 0));
        argument("Promise 19, room " + wrong, x -> x.gap(wrong, 0, 1));
    }

    private void wrongPerson(int wrong) {
        argument("Promise 4, person " + wrong, x -> x.wish(wrong, 0, 1));
        argument("Promise 5, person " + wrong, x -> x.bar(wrong, 0, true) ? 1 : 0);
        argument("Promise 6, person " + wrong, x -> x.sits(wrong, 2));
        argument("Promise 8, person " + wrong, x -> x.deskOf(wrong));
        argument("Promise 13, person " + wrong, x -> x.worthOf(wrong));
    }

    private void wrongDesk(int wrong) {
        argument("Promise 4, desk " + wrong, x -> x.wish(0, wrong, 1));
        argument("Promise 5, desk " + wrong, x -> x.bar(0, wrong, true) ? 1 : 0);
        argument("Promise 6, desk " + wrong, x -> x.sits(0, wrong));
    }

    private void wrongBookings() {
        argument("Promise 15, nobody", x -> x.book(50, 60, 0));
        argument("Promise 15, 201 persons", x -> x.book(50, 60, 201));
        argument("Promise 15, from -1", x -> x.book(-1, 5, 1));
        argument("Promise 15, to 10081", x -> x.book(50, 10081, 1));
        argument("Promise 15, from at to", x -> x.book(50, 50, 1));
        argument("Promise 15, from behind to", x -> x.book(60, 50, 1));
        argument("Promise 16, booking 3", x -> x.cancel(3) ? 1 : 0);
        argument("Promise 16, booking -1", x -> x.cancel(-1) ? 1 : 0);
        argument("Promise 17, booking 3", x -> x.roomOf(3));
        argument("Promise 17, booking -1", x -> x.roomOf(-1));
        argument("Promise 18, room 2", x -> x.inside(2, 0));
        argument("Promise 18, minute -1", x -> x.inside(0, -1));
        argument("Promise 18, minute 10080", x -> x.inside(0, 10080));
        argument("Promise 19, room 2", x -> x.gap(2, 0, 1));
        argument("Promise 19, from -1", x -> x.gap(0, -1, 1));
        argument("Promise 19, from 10080", x -> x.gap(0, 10080, 1));
        argument("Promise 19, 0 minutes", x -> x.gap(0, 0, 0));
        argument("Promise 19, 10081 minutes", x -> x.gap(0, 0, 10081));
    }

    private void seatingIsAsked() {
        answers("Promise 7, seat once more", 13, DeskMoves::seat);
        answers("Promise 8, deskOf", 2, x -> x.deskOf(2));
        answers("Promise 9, moved", 2, DeskMoves::moved);
        answers("Promise 10, steps", 4, DeskMoves::steps);
        answers("Promise 11, step", 0, x -> x.step(1, 0));
        answers("Promise 13, worthOf the first", 7, x -> x.worthOf(0));
        answers("Promise 13, worthOf one without whom others are seated otherwise", 1, x -> x.worthOf(1));
    }

    private void roomsAreAsked() {
        answers("Promise 15, book answers NONE", NONE, x -> x.book(50, 60, 4));
        answers("Promise 16, cancel of one that was given up", 0, x -> x.cancel(2) ? 1 : 0);
        answers("Promise 17, roomOf", 0, x -> x.roomOf(1));
        answers("Promise 18, inside", 0, x -> x.inside(1, 10));
        answers("Promise 19, gap", 20, x -> x.gap(1, 5, 6));
        answers("Promise 19, gap answers NONE", NONE, x -> x.gap(0, 0, 1));
        answers("Promise 20, waste", 2, DeskMoves::waste);
    }

    private static void officeWithoutSeating() {
        RefusedCallsTest test = new RefusedCallsTest("no seating is made", RefusedCallsTest::smallOffice);
        test.state("Promise 10, steps", DeskMoves::steps);
        test.state("Promise 11, step", x -> x.step(0, 0));
        test.argument("Promise 11, step, k", x -> x.step(-1, 0));
        test.state("Promise 12, settle", DeskMoves::settle);
        test.state("Promise 13, worthOf", x -> x.worthOf(0));
        test.argument("Promise 13, worthOf, person 3", x -> x.worthOf(3));
        test.state("Promise 6, another one's desk", x -> x.sits(2, 1));
        test.answers("Promise 8, deskOf", NONE, x -> x.deskOf(0));
        test.answers("Promise 9, moved", NONE, DeskMoves::moved);
    }

    private static void officeWithoutAnySeating() {
        RefusedCallsTest test = new RefusedCallsTest("there is no seating", () -> {
            DeskMoves x = smallOffice();
            Made.mayHave(x, 4, 1);
            return x;
        });
        test.answers("Promise 7, seat answers NONE", NONE, DeskMoves::seat);
        test.state("Promise 12, settle", DeskMoves::settle);
    }

    private static void stuckOffice() {
        RefusedCallsTest test = new RefusedCallsTest("it comes to be STUCK",
            () -> Made.moving(3, new int[] {0, 1, NONE}, new int[] {1, 0, 2}));
        test.argument("Promise 11, a step that can't be gone", x -> x.step(1, 0));
        test.answers("Promise 10, steps", -2, DeskMoves::steps);
        test.answers("Promise 11, the step that can be gone", 2, x -> x.step(0, 2));
    }

    private static void fullOffice() {
        RefusedCallsTest test = new RefusedCallsTest("there are 14 desks, 10 persons, 8 rooms", () -> {
            DeskMoves x = Made.office(14, 10);
            for (int r = 0; r < 8; r++) {
                x.room(10 + r);
            }
            x.sits(9, 13);
            x.wish(9, 0, 3);
            x.book(0, 20, 10);
            x.seat();
            return x;
        });
        test.state("Promise 2, a 15th desk", DeskMoves::desk);
        test.state("Promise 3, an 11th person", DeskMoves::person);
        test.state("Promise 14, a 9th room", x -> x.room(1));
        test.argument("Promise 14, a 9th room of 0 places", x -> x.room(0));
        test.wrongPerson(10);
        test.wrongDesk(14);
        test.argument("Promise 18, room 8", x -> x.inside(8, 0));
        test.argument("Promise 19, room 8", x -> x.gap(8, 0, 1));
        test.state("Promise 6, another one's desk", x -> x.sits(0, 13));
    }

    private static void fullBookings() {
        RefusedCallsTest test = new RefusedCallsTest("there were 300 bookings", () -> {
            DeskMoves x = Made.house(2);
            for (int b = 0; b < 300; b++) {
                x.book(10 * b, 10 * b + 9, 1);
            }
            x.cancel(1);
            x.seat();
            return x;
        });
        test.state("Promise 15, a 301st", x -> x.book(19, 20, 1));
        test.state("Promise 15, a 301st in minutes that were given up", x -> x.book(10, 19, 1));
        test.state("Promise 15, a 301st without a room", x -> x.book(0, 9, 1));
        test.argument("Promise 15, a 301st for nobody", x -> x.book(10, 19, 0));
        test.argument("Promise 16, booking 300", x -> x.cancel(300) ? 1 : 0);
        test.argument("Promise 17, booking 300", x -> x.roomOf(300));
    }
}
