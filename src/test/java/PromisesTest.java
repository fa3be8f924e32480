/** For each promise of the document: ordinary inputs, the edges that it names, wrong inputs. */
public final class PromisesTest {
    private static final int NONE = DeskMoves.NONE;
    private static final int[] WRONG = {Integer.MIN_VALUE, -2, 1000000, Integer.MAX_VALUE};

    private PromisesTest() {
    }

    public static void main(String[] args) {
        promise1NewObject();
        promise2Desk();
        promise3Person();
        promise4Wish();
        promise5Bar();
        promise6Sits();
        promise7Seat();
        promise7WhichSeating();
        promise8DeskOf();
        promise9Moved();
        promise10Steps();
        promise11Step();
        promise12Settle();
        promise13WorthOf();
        noSeatingBehindChanges();
        promise14Room();
        promise15Book();
        promise15ThreeHundred();
        promise16Cancel();
        promise17RoomOf();
        promise18Inside();
        promise19Gap();
        promise20Waste();
        Checks.end();
    }

    private static void promise1NewObject() {
        DeskMoves x = new DeskMoves();
        Checks.due("new: moved", NONE, x::moved);
        Checks.due("new: waste", 0, x::waste);
        Checks.illegalState("new: steps", x::steps);
        Checks.illegalState("new: settle", x::settle);
        Checks.illegalArgument("new: deskOf(0)", () -> x.deskOf(0));
        Checks.illegalArgument("new: inside(0, 0)", () -> x.inside(0, 0));
        Checks.illegalArgument("new: roomOf(0)", () -> x.roomOf(0));
        Checks.illegalArgument("new: cancel(0)", () -> x.cancel(0) ? 1 : 0);
        Checks.due("new: book", NONE, () -> x.book(0, 1, 1));
        Checks.due("new: seat", 0, x::seat);
        Checks.due("new: moved behind seat", 0, x::moved);
        Checks.due("new: steps behind seat", 0, x::steps);
        Checks.due("new: settle behind seat", 0, x::settle);
        x.desk();
        Checks.due("two objects have nothing in common", 0, () -> new DeskMoves().desk());
    }

    private static void promise2Desk() {
        DeskMoves x = new DeskMoves();
        for (int d = 0; d < 14; d++) {
            Checks.due("desk()", d, x::desk);
        }
        x.seat();
        Checks.illegalState("a 15th desk", x::desk);
        Checks.illegalState("a 15th desk again", x::desk);
        Checks.due("the seating stays when desk() throws", 0, x::moved);
        x.person();
        Checks.illegalArgument("desk 14", () -> x.wish(0, 14, 1));
        Checks.due("desk 13", 0, () -> x.wish(0, 13, 1));
    }

    private static void promise3Person() {
        DeskMoves x = Made.office(14, 0);
        for (int p = 0; p < 10; p++) {
            Checks.due("person()", p, x::person);
        }
        x.seat();
        Checks.illegalState("an 11th person", x::person);
        Checks.due("the seating stays when person() throws", 0, x::moved);
        Checks.illegalArgument("person 10", () -> x.deskOf(10));
        Checks.desksAre("ten persons without wishes", x, 0, 1, 2, 3, 4, 5, 6, 7, 8, 9);
    }

    private static void promise4Wish() {
        DeskMoves x = Made.office(3, 2);
        Checks.due("first wish", 0, () -> x.wish(1, 2, 1000));
        Checks.due("second wish", 1000, () -> x.wish(1, 2, 0));
        Checks.due("third wish", 0, () -> x.wish(1, 2, 7));
        Checks.due("another's wish", 0, () -> x.wish(0, 2, 3));
        x.bar(1, 2, true);
        Checks.due("wish for a barred desk", 7, () -> x.wish(1, 2, 8));
        Checks.due("a barred wish is worth nothing", 3, x::seat);
        x.bar(1, 2, false);
        Checks.due("a wish outlasts the bar", 8, x::seat);
        Checks.illegalArgument("worth 1001", () -> x.wish(0, 0, 1001));
        Checks.illegalArgument("worth -1", () -> x.wish(0, 0, -1));
        Checks.illegalArgument("no person", () -> x.wish(2, 0, 1));
        Checks.illegalArgument("person -1", () -> x.wish(-1, 0, 1));
        Checks.illegalArgument("no desk", () -> x.wish(0, 3, 1));
        Checks.illegalArgument("desk -1", () -> x.wish(0, NONE, 1));
        for (int wrong : WRONG) {
            Checks.illegalArgument("wish of a wrong person", () -> x.wish(wrong, 0, 1));
            Checks.illegalArgument("wish for a wrong desk", () -> x.wish(0, wrong, 1));
            Checks.illegalArgument("a wrong wish", () -> x.wish(0, 0, wrong));
        }
        Checks.due("the seating stays when wish() throws", 0, x::moved);
        Checks.due("wrong wishes change nothing", 0, () -> x.wish(0, 0, 0));
    }

    private static void promise5Bar() {
        DeskMoves x = Made.office(2, 2);
        Checks.due("first bar", false, x.bar(0, 0, true));
        Checks.due("bar again", true, x.bar(0, 0, true));
        x.seat();
        Checks.desksAre("desk 0 is barred for person 0", x, 1, 0);
        Checks.due("bar of another desk", false, x.bar(0, 1, false));
        Checks.due("bar of another person", false, x.bar(1, 0, false));
        Checks.due("no bar", true, x.bar(0, 0, false));
        Checks.due("no bar again", false, x.bar(0, 0, false));
        x.seat();
        Checks.desksAre("nothing is barred", x, 0, 1);
        Checks.illegalArgument("bar: no person", () -> x.bar(2, 0, true) ? 1 : 0);
        Checks.illegalArgument("bar: no desk", () -> x.bar(0, 2, true) ? 1 : 0);
        Checks.illegalArgument("bar: person -1", () -> x.bar(-1, 0, false) ? 1 : 0);
        Checks.illegalArgument("bar: desk -1", () -> x.bar(0, -1, false) ? 1 : 0);
        for (int wrong : WRONG) {
            Checks.illegalArgument("bar for a wrong person", () -> x.bar(wrong, 0, true) ? 1 : 0);
            Checks.illegalArgument("bar of a wrong desk", () -> x.bar(0, wrong, true) ? 1 : 0);
        }
        Checks.desksAre("the seating stays when bar() throws", x, 0, 1);
    }

    private static void promise6Sits() {
        DeskMoves x = Made.office(3, 2);
        Checks.due("first old desk", NONE, () -> x.sits(0, 1));
        Checks.due("the same old desk", 1, () -> x.sits(0, 1));
        Checks.illegalState("another's old desk", () -> x.sits(1, 1));
        Checks.due("another old desk", 1, () -> x.sits(0, 2));
        Checks.due("one that was given up", NONE, () -> x.sits(1, 1));
        Checks.due("no old desk", 2, () -> x.sits(0, NONE));
        Checks.due("no old desk for two", 1, () -> x.sits(1, NONE));
        Checks.due("none before", NONE, () -> x.sits(0, 0));
        x.bar(0, 0, true);
        Checks.due("an old desk may be barred", 0, () -> x.sits(0, 0));
        x.seat();
        Checks.illegalState("another's old desk again", () -> x.sits(1, 0));
        Checks.illegalArgument("sits: no desk", () -> x.sits(0, 3));
        Checks.illegalArgument("sits: desk -2", () -> x.sits(0, -2));
        Checks.illegalArgument("sits: no person", () -> x.sits(2, 0));
        Checks.illegalArgument("sits: no person, no desk", () -> x.sits(2, NONE));
        Checks.illegalArgument("sits: person -1", () -> x.sits(-1, 1));
        for (int wrong : WRONG) {
            Checks.illegalArgument("sits of a wrong person", () -> x.sits(wrong, 1));
            Checks.illegalArgument("sits at a wrong desk", () -> x.sits(0, wrong));
        }
        Checks.due("the seating stays when sits() throws", 1, x::moved);
    }

    private static void promise7Seat() {
        Checks.due("no desk for a person", NONE, () -> Made.office(0, 1).seat());
        Checks.due("too few desks", NONE, () -> Made.office(9, 10).seat());
        Checks.due("just enough desks", 0, () -> Made.office(10, 10).seat());
        DeskMoves x = Made.office(3, 3);
        x.wish(0, 0, 10);
        x.wish(0, 1, 9);
        x.wish(1, 0, 8);
        Checks.due("best together, not first come", 17, x::seat);
        Checks.desksAre("best together", x, 1, 0, 2);
        Checks.due("the same once more", 17, x::seat);
        x.bar(1, 1, true);
        x.bar(1, 2, true);
        x.bar(2, 1, true);
        x.bar(2, 2, true);
        Checks.due("two persons who can have one desk alone", NONE, x::seat);
        Checks.due("deskOf when there is no seating", NONE, () -> x.deskOf(0));
        Checks.due("moved when there is no seating", NONE, x::moved);
        x.bar(2, 2, false);
        Checks.due("a chain of changes", 17, x::seat);
        DeskMoves full = Made.office(14, 10);
        for (int p = 0; p < 10; p++) {
            full.wish(p, 13 - p, 1000);
        }
        Checks.due("the greatest worth", 10000, full::seat);
        Checks.desksAre("the greatest worth", full, 13, 12, 11, 10, 9, 8, 7, 6, 5, 4);
    }

    private static void promise7WhichSeating() {
        DeskMoves x = Made.office(4, 2);
        x.sits(0, 3);
        x.sits(1, 2);
        Checks.due("nobody has wishes", 0, x::seat);
        Checks.desksAre("fewest moved before least desk", x, 3, 2);
        x.wish(0, 1, 1);
        Checks.due("one has a wish", 1, x::seat);
        Checks.desksAre("worth before fewest moved", x, 1, 2);
        DeskMoves y = Made.office(4, 3);
        y.bar(0, 0, true);
        y.seat();
        Checks.desksAre("least desk for person 0, then for person 1", y, 1, 0, 2);
        y.wish(0, 3, 5);
        y.wish(1, 3, 5);
        y.seat();
        Checks.desksAre("person 0's least desk weighs more than all others'", y, 1, 3, 0);
        DeskMoves z = Made.office(14, 10);
        for (int p = 0; p < 10; p++) {
            z.sits(p, 13 - p);
        }
        z.bar(0, 13, true);
        Checks.due("all others stay", 0, z::seat);
        Checks.desksAre("one moved, the others stay", z, 0, 12, 11, 10, 9, 8, 7, 6, 5, 4);
        Checks.due("one moved", 1, z::moved);
        DeskMoves ring = Made.office(10, 10);
        for (int p = 0; p < 10; p++) {
            ring.sits(p, p);
            for (int d = 0; d < 10; d++) {
                ring.bar(p, d, d != p && d != (p + 1) % 10);
            }
        }
        Checks.due("all stay", 0, ring::seat);
        ring.wish(0, 1, 1);
        Checks.due("a worth of 1 before ten moved", 1, ring::seat);
        Checks.due("ten moved", 10, ring::moved);
    }

    private static void promise8DeskOf() {
        DeskMoves x = Made.office(2, 1);
        Checks.due("no seating is made", NONE, () -> x.deskOf(0));
        x.wish(0, 1, 1);
        x.seat();
        Checks.due("the desk of the seating", 1, () -> x.deskOf(0));
        Checks.illegalArgument("deskOf: no person", () -> x.deskOf(1));
        Checks.illegalArgument("deskOf(-1)", () -> x.deskOf(-1));
        for (int wrong : WRONG) {
            Checks.illegalArgument("deskOf a wrong person", () -> x.deskOf(wrong));
        }
        x.settle();
        Checks.due("deskOf behind settle", NONE, () -> x.deskOf(0));
        Checks.illegalArgument("deskOf: no person, no seating", () -> x.deskOf(1));
    }

    private static void promise9Moved() {
        DeskMoves x = Made.office(4, 3);
        Checks.due("no seating: moved", NONE, x::moved);
        x.sits(0, 0);
        x.sits(1, 1);
        x.wish(0, 1, 5);
        x.wish(1, 1, 2);
        x.wish(1, 3, 2);
        x.wish(2, 2, 5);
        x.seat();
        Checks.due("who was away is not moved", 2, x::moved);
        x.settle();
        Checks.due("moved behind settle", NONE, x::moved);
        x.seat();
        Checks.due("nobody is moved again", 0, x::moved);
    }

    private static void promise10Steps() {
        DeskMoves ring = Made.moving(4, new int[] {0, 1, 2}, new int[] {1, 2, 0});
        Checks.due("a ring and a free desk", 4, ring::steps);
        DeskMoves full = Made.moving(3, new int[] {0, 1, 2}, new int[] {1, 2, 0});
        Checks.due("a ring and no free desk", -2, full::steps);
        full.desk();
        full.seat();
        Checks.due("not stuck any more", 4, full::steps);
        Checks.due("all sit at their desks", 0, () -> Made.moving(2, new int[] {0, 1}, new int[] {0, 1}).steps());
        Checks.due("all were away", 2, () -> Made.moving(2, new int[] {NONE, NONE}, new int[] {1, 0}).steps());
        Checks.due("a chain", 3, () -> Made.moving(4, new int[] {0, 1, 2}, new int[] {1, 2, 3}).steps());
        Checks.due("five rings", 15, () -> Made.moving(11,
            new int[] {0, 1, 2, 3, 4, 5, 6, 7, 8, 9}, new int[] {1, 0, 3, 2, 5, 4, 7, 6, 9, 8}).steps());
        DeskMoves x = Made.office(2, 2);
        Checks.illegalState("steps: no seating", x::steps);
        x.bar(0, 0, true);
        x.bar(0, 1, true);
        x.seat();
        Checks.illegalState("steps: there is no seating", x::steps);
    }

    private static void promise11Step() {
        DeskMoves x = Made.moving(5, new int[] {1, 0, NONE, 3}, new int[] {0, 1, 3, 2});
        Checks.due("steps of a chain, then of a ring", 5, x::steps);
        Checks.stepIs("who can goes first", x, 0, 3, 3, 2);
        Checks.stepIs("one who was away", x, 1, 2, NONE, 3);
        Checks.stepIs("aside into the least free desk", x, 2, 0, 1, 4);
        Checks.stepIs("the ring is open", x, 3, 1, 0, 1);
        Checks.stepIs("back from aside", x, 4, 0, 4, 0);
        Checks.illegalArgument("behind the last step", () -> x.step(5, 0));
        Checks.illegalArgument("k -1", () -> x.step(-1, 0));
        Checks.illegalArgument("what 3", () -> x.step(0, 3));
        Checks.illegalArgument("what -1", () -> x.step(0, -1));
        for (int wrong : WRONG) {
            Checks.illegalArgument("a wrong k", () -> x.step(wrong, 0));
            Checks.illegalArgument("a wrong what", () -> x.step(0, wrong));
        }
        DeskMoves stuck = Made.moving(3, new int[] {1, 0, NONE}, new int[] {0, 1, 2});
        Checks.due("stuck behind one step", -2, stuck::steps);
        Checks.stepIs("the step that can be gone", stuck, 0, 2, NONE, 2);
        Checks.illegalArgument("behind it all is stuck", () -> stuck.step(1, 0));
        DeskMoves barred = Made.moving(4, new int[] {0, 1}, new int[] {1, 0});
        barred.bar(0, 2, true);
        barred.seat();
        Checks.stepIs("a desk on the way may be barred", barred, 0, 0, 0, 2);
        DeskMoves none = Made.office(1, 1);
        Checks.illegalState("step: no seating", () -> none.step(0, 0));
        Checks.illegalState("step: no seating, k too great", () -> none.step(99, 2));
        Checks.illegalArgument("step: no seating, k -1", () -> none.step(-1, 0));
        Checks.illegalArgument("step: no seating, what 3", () -> none.step(0, 3));
    }

    private static void promise12Settle() {
        DeskMoves x = Made.office(4, 3);
        Checks.illegalState("settle: no seating", x::settle);
        x.sits(0, 0);
        x.sits(1, 1);
        x.wish(1, 2, 1);
        x.wish(2, 3, 1);
        x.seat();
        Checks.due("settle counts the moved and those who were away", 2, x::settle);
        Checks.illegalState("settle twice", x::settle);
        Checks.illegalState("steps behind settle", x::steps);
        Checks.due("old desk of one who stayed", 0, () -> x.sits(0, 0));
        Checks.due("old desk of one who moved", 2, () -> x.sits(1, 2));
        Checks.due("old desk of one who was away", 3, () -> x.sits(2, 3));
    }

    private static void promise13WorthOf() {
        DeskMoves x = Made.office(2, 2);
        x.wish(0, 0, 10);
        x.wish(1, 0, 7);
        x.wish(1, 1, 4);
        Checks.illegalState("worthOf: no seating", () -> x.worthOf(0));
        Checks.illegalArgument("worthOf: no person, no seating", () -> x.worthOf(2));
        x.seat();
        Checks.due("the other gets more without it", 7, () -> x.worthOf(0));
        Checks.due("the other gets no more", 4, () -> x.worthOf(1));
        Checks.desksAre("the seating stays", x, 0, 1);
        Checks.due("the steps stay", 2, x::steps);
        x.bar(0, 1, true);
        x.wish(0, 0, 0);
        x.seat();
        Checks.due("below 0: the others would be better off", -3, () -> x.worthOf(0));
        Checks.illegalArgument("worthOf: no person", () -> x.worthOf(2));
        for (int wrong : WRONG) {
            Checks.illegalArgument("worthOf a wrong person", () -> x.worthOf(wrong));
        }
        DeskMoves alone = Made.office(1, 1);
        alone.wish(0, 0, 1000);
        alone.seat();
        Checks.due("worthOf the only person", 1000, () -> alone.worthOf(0));
    }

    /** Also calls that change nothing undo the seating, unless they throw; those of rooms don't. */
    private static void noSeatingBehindChanges() {
        DeskMoves x = Made.office(2, 1);
        x.sits(0, 1);
        x.seat();
        x.wish(0, 0, 0);
        Checks.due("no seating behind wish", NONE, x::moved);
        x.seat();
        x.bar(0, 0, false);
        Checks.due("no seating behind bar", NONE, x::moved);
        x.seat();
        x.sits(0, 1);
        Checks.due("no seating behind sits", NONE, x::moved);
        x.seat();
        x.desk();
        Checks.due("no seating behind desk", NONE, x::moved);
        x.seat();
        x.person();
        Checks.due("no seating behind person", NONE, x::moved);
        x.seat();
        x.cancel(bookIn(x));
        Checks.due("a seating behind room, book, cancel", 0, x::moved);
    }

    private static int bookIn(DeskMoves x) {
        x.room(2);
        return x.book(0, 1, 1);
    }

    private static void promise14Room() {
        DeskMoves x = new DeskMoves();
        Checks.illegalArgument("room(0)", () -> x.room(0));
        Checks.illegalArgument("room(201)", () -> x.room(201));
        for (int wrong : WRONG) {
            Checks.illegalArgument("a wrong room", () -> x.room(wrong));
        }
        Checks.due("room(1)", 0, () -> x.room(1));
        Checks.due("room(200)", 1, () -> x.room(200));
        for (int r = 2; r < 8; r++) {
            Checks.due("room(5)", r, () -> x.room(5));
        }
        Checks.illegalState("a 9th room", () -> x.room(5));
        Checks.illegalArgument("a 9th room without places", () -> x.room(0));
        Checks.illegalArgument("room 8", () -> x.gap(8, 0, 1));
        Checks.due("room 7", 0, () -> x.gap(7, 0, 1));
    }

    private static void promise15Book() {
        DeskMoves x = Made.house(10, 4, 4, 6);
        Checks.due("fewest places, least room", 0, () -> x.book(10, 20, 3));
        Checks.due("the other of the same places", 1, () -> x.book(19, 21, 4));
        Checks.due("more places", 2, () -> x.book(0, 20, 4));
        Checks.due("most places", 3, () -> x.book(0, 10080, 1));
        int[] rooms = {1, 2, 3, 0};
        for (int b = 0; b < 4; b++) {
            int booking = b;
            Checks.due("room of booking " + b, rooms[b], () -> x.roomOf(booking));
        }
        Checks.due("no room is left", NONE, () -> x.book(10, 11, 7));
        Checks.due("too many persons", NONE, () -> x.book(10, 11, 11));
        Checks.due("behind one that ends there", 4, () -> x.book(20, 30, 4));
        Checks.due("it is in room 1", 1, () -> x.roomOf(4));
        Checks.due("ahead of one that begins there", 5, () -> x.book(5, 10, 4));
        Checks.due("it is in room 1, too", 1, () -> x.roomOf(5));
        Checks.due("minute 10080 is the last end", 6, () -> x.book(10079, 10080, 1));
        Checks.illegalArgument("book: 0 persons", () -> x.book(0, 1, 0));
        Checks.illegalArgument("book: 201 persons", () -> x.book(0, 1, 201));
        Checks.due("book: 200 persons", NONE, () -> x.book(0, 1, 200));
        Checks.illegalArgument("book: from -1", () -> x.book(-1, 1, 1));
        Checks.illegalArgument("book: to 10081", () -> x.book(0, 10081, 1));
        Checks.illegalArgument("book: from 10080", () -> x.book(10080, 10080, 1));
        Checks.illegalArgument("book: from at to", () -> x.book(5, 5, 1));
        Checks.illegalArgument("book: from behind to", () -> x.book(6, 5, 1));
        for (int wrong : WRONG) {
            Checks.illegalArgument("book from a wrong minute", () -> x.book(wrong, 5, 1));
            Checks.illegalArgument("book to a wrong minute", () -> x.book(0, wrong, 1));
            Checks.illegalArgument("book for wrong persons", () -> x.book(0, 1, wrong));
        }
        Checks.due("numbers go on", 7, () -> x.book(100, 101, 1));
    }

    private static void promise15ThreeHundred() {
        DeskMoves x = Made.house(1);
        for (int b = 0; b < 300; b++) {
            int from = 10000 - 30 * b;
            Checks.due("book from late to early", b, () -> x.book(from, from + 20, 1));
        }
        Checks.due("cancel one of 300", true, x.cancel(7));
        Checks.illegalState("a 301st booking", () -> x.book(0, 1, 1));
        Checks.illegalState("a 301st booking that no room could have", () -> x.book(0, 1, 200));
        Checks.illegalArgument("a 301st booking with a wrong number", () -> x.book(0, 1, 0));
        Checks.due("the last booking", 0, () -> x.roomOf(299));
        Checks.illegalArgument("booking 300", () -> x.roomOf(300));
        Checks.due("a gap among 300", 9780, () -> x.gap(0, 1030, 40));
    }

    private static void promise16Cancel() {
        DeskMoves x = Made.house(2);
        x.book(0, 10, 1);
        x.book(10, 20, 1);
        x.book(20, 30, 1);
        Checks.due("cancel the middle one", true, x.cancel(1));
        Checks.due("cancel it again", false, x.cancel(1));
        Checks.due("the others stay", 0, () -> x.inside(0, 9));
        Checks.due("the others stay there", 2, () -> x.inside(0, 20));
        Checks.due("its minutes are free", 3, () -> x.book(10, 20, 2));
        Checks.due("the old number stays given up", false, x.cancel(1));
        Checks.due("cancel the first one", true, x.cancel(0));
        Checks.due("cancel the last one", true, x.cancel(2));
        Checks.due("the new one is there", 3, () -> x.inside(0, 10));
        Checks.due("cancel the only one", true, x.cancel(3));
        Checks.due("all is free", 0, () -> x.gap(0, 0, 10080));
        Checks.illegalArgument("cancel(4)", () -> x.cancel(4) ? 1 : 0);
        Checks.illegalArgument("cancel(-1)", () -> x.cancel(-1) ? 1 : 0);
        for (int wrong : WRONG) {
            Checks.illegalArgument("cancel a wrong one", () -> x.cancel(wrong) ? 1 : 0);
        }
    }

    private static void promise17RoomOf() {
        DeskMoves x = Made.house(5, 3);
        x.book(0, 10, 4);
        x.book(0, 10, 2);
        Checks.due("roomOf(0)", 0, () -> x.roomOf(0));
        Checks.due("roomOf(1)", 1, () -> x.roomOf(1));
        x.cancel(1);
        Checks.due("roomOf one that was given up", 1, () -> x.roomOf(1));
        x.book(50, 60, 6);
        Checks.illegalArgument("one that got no room", () -> x.roomOf(2));
        Checks.illegalArgument("roomOf(-1)", () -> x.roomOf(-1));
        for (int wrong : WRONG) {
            Checks.illegalArgument("roomOf a wrong one", () -> x.roomOf(wrong));
        }
    }

    private static void promise18Inside() {
        DeskMoves x = Made.house(5, 3);
        x.book(10, 20, 4);
        x.book(20, 21, 4);
        x.book(10079, 10080, 4);
        Checks.due("ahead of it", NONE, () -> x.inside(0, 9));
        Checks.due("its first minute", 0, () -> x.inside(0, 10));
        Checks.due("its last minute", 0, () -> x.inside(0, 19));
        Checks.due("the next one's", 1, () -> x.inside(0, 20));
        Checks.due("behind both", NONE, () -> x.inside(0, 21));
        Checks.due("minute 10079", 2, () -> x.inside(0, 10079));
        Checks.due("minute 0", NONE, () -> x.inside(0, 0));
        Checks.due("another room", NONE, () -> x.inside(1, 10));
        x.cancel(0);
        Checks.due("one that was given up", NONE, () -> x.inside(0, 10));
        Checks.illegalArgument("inside: minute 10080", () -> x.inside(0, 10080));
        Checks.illegalArgument("inside: minute -1", () -> x.inside(0, -1));
        Checks.illegalArgument("inside: room 2", () -> x.inside(2, 0));
        Checks.illegalArgument("inside: room -1", () -> x.inside(-1, 0));
        for (int wrong : WRONG) {
            Checks.illegalArgument("inside a wrong room", () -> x.inside(wrong, 0));
            Checks.illegalArgument("inside at a wrong minute", () -> x.inside(0, wrong));
        }
    }

    private static void promise19Gap() {
        DeskMoves x = Made.house(5, 9);
        Checks.due("the whole week", 0, () -> x.gap(0, 0, 10080));
        Checks.due("more than is left of it", NONE, () -> x.gap(0, 1, 10080));
        x.book(30, 40, 1);
        x.book(10, 20, 1);
        x.book(40, 50, 1);
        Checks.due("ahead of all", 0, () -> x.gap(0, 0, 10));
        Checks.due("between two", 20, () -> x.gap(0, 1, 10));
        Checks.due("from inside a gap", 22, () -> x.gap(0, 22, 8));
        Checks.due("too little of a gap is left", 50, () -> x.gap(0, 23, 8));
        Checks.due("from inside a booking", 20, () -> x.gap(0, 15, 1));
        Checks.due("no gap between two that touch", 50, () -> x.gap(0, 30, 1));
        Checks.due("behind all", 50, () -> x.gap(0, 0, 10030));
        Checks.due("a minute too many", NONE, () -> x.gap(0, 0, 10031));
        Checks.due("another room has no bookings", 15, () -> x.gap(1, 15, 10065));
        Checks.due("the last minute", 10079, () -> x.gap(0, 10079, 1));
        Checks.due("behind the last minute", NONE, () -> x.gap(0, 10079, 2));
        x.book(10000, 10080, 1);
        Checks.due("the last minute is booked", NONE, () -> x.gap(0, 10079, 1));
        x.cancel(0);
        Checks.due("a gap where one was given up", 20, () -> x.gap(0, 0, 20));
        Checks.illegalArgument("gap: from 10080", () -> x.gap(0, 10080, 1));
        Checks.illegalArgument("gap: from -1", () -> x.gap(0, -1, 1));
        Checks.illegalArgument("gap: 0 minutes", () -> x.gap(0, 0, 0));
        Checks.illegalArgument("gap: 10081 minutes", () -> x.gap(0, 0, 10081));
        Checks.illegalArgument("gap: room 2", () -> x.gap(2, 0, 1));
        Checks.illegalArgument("gap: room -1", () -> x.gap(-1, 0, 1));
        for (int wrong : WRONG) {
            Checks.illegalArgument("gap in a wrong room", () -> x.gap(wrong, 0, 1));
            Checks.illegalArgument("gap from a wrong minute", () -> x.gap(0, wrong, 1));
            Checks.illegalArgument("gap of wrong minutes", () -> x.gap(0, 0, wrong));
        }
    }

    private static void promise20Waste() {
        DeskMoves x = Made.house(5, 200);
        Checks.due("no bookings", 0, x::waste);
        x.book(0, 10, 5);
        Checks.due("nothing is left over", 0, x::waste);
        x.book(10, 20, 2);
        Checks.due("three places", 3, x::waste);
        x.book(10, 20, 1);
        Checks.due("three and 199 places", 202, x::waste);
        x.cancel(1);
        Checks.due("199 places", 199, x::waste);
        x.cancel(1);
        Checks.due("given up but once", 199, x::waste);
        x.book(10, 20, 1);
        Checks.due("199 and four places", 203, x::waste);
    }
}
