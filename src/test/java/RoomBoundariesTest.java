/** Each sentence of the document that names a boundary case of rooms and bookings: a test of its own. */
public final class RoomBoundariesTest {
    private static final int NONE = DeskMoves.NONE;
    private static final int END = 10080;

    private RoomBoundariesTest() {
    }

    public static void main(String[] args) {
        promise14();
        promise15Arguments();
        promise15ThreeHundred();
        promise15OtherBookings();
        promise15WhichRoom();
        promise16();
        promise17();
        promise18();
        promise19Arguments();
        promise19FirstMinute();
        promise19UpToTheEnd();
        promise20();
        Checks.end();
    }

    private static long cancel(DeskMoves x, int booking) {
        return x.cancel(booking) ? 1 : 0;
    }

    /** One room of one place with 300 bookings of a minute each, every other minute from 0 on. */
    private static DeskMoves threeHundred() {
        DeskMoves x = Made.house(1);
        for (int b = 0; b < 300; b++) {
            x.book(2 * b, 2 * b + 1, 1);
        }
        return x;
    }

    private static void promise14() {
        Checks.about("Promise 14, places are not 1 .. 200");
        DeskMoves few = new DeskMoves();
        Checks.bounds("places", 1, 200, few::room);
        Checks.illegalArgument("refused rooms are not there", () -> few.inside(2, 0));
        Checks.due("numbers go on behind refused ones", 2, () -> few.room(1));
        Checks.due("one place is enough for one", 0, () -> few.book(0, END, 1));
        Checks.due("200 places are enough for 200", 1, () -> few.book(0, END, 200));
        Checks.about("Promise 14, rooms are 0 .. 7, illegal state: there are 8");
        DeskMoves x = new DeskMoves();
        for (int r = 0; r < 8; r++) {
            int next = r;
            Checks.illegalArgument("room " + r + " ahead of its call", () -> x.inside(next, 0));
            Checks.due("its number", r, () -> x.room(200 - next));
            Checks.due("room " + r + " behind its call", NONE, () -> x.inside(next, 0));
        }
        Checks.illegalState("a 9th room", () -> x.room(1));
        Checks.illegalState("a 9th room once more", () -> x.room(200));
        Checks.illegalArgument("room 8 is not there", () -> x.inside(8, 0));
        x.book(0, 1, 1);
        Checks.due("the 8th has the fewest places still", 7, () -> x.roomOf(0));
        Checks.due("it has 193 places still", 192, x::waste);
        Checks.about("Promise 14, illegal argument is named first");
        Checks.illegalArgument("a 9th room of 0 places", () -> x.room(0));
        Checks.illegalArgument("a 9th room of 201 places", () -> x.room(201));
    }

    private static void promise15Arguments() {
        Checks.about("Promise 15, persons are not 1 .. 200");
        DeskMoves x = Made.house(200, 200, 200);
        Checks.bounds("persons", 1, 200, persons -> x.book(10, 20, persons));
        Checks.about("Promise 15, minutes not 0 .. 10080 with from before to");
        Checks.bounds("from ahead of 10", 0, 9, from -> x.book(from, 10, 1));
        Checks.bounds("to behind 20", 21, END, to -> x.book(20, to, 1));
        Checks.bounds("to behind 0", 1, END, to -> x.book(0, to, 1));
        Checks.bounds("from ahead of 10080", 0, END - 1, from -> x.book(from, END, 1));
        Checks.illegalArgument("from at to, 0", () -> x.book(0, 0, 1));
        Checks.illegalArgument("from at to, 10080", () -> x.book(END, END, 1));
        Checks.illegalArgument("from behind to", () -> x.book(END, 0, 1));
        Checks.illegalArgument("both too small", () -> x.book(-2, -1, 1));
        Checks.illegalArgument("both too large", () -> x.book(END + 1, END + 2, 1));
        Checks.illegalArgument("to - from is too large for an int", () -> x.book(Integer.MIN_VALUE, Integer.MAX_VALUE, 1));
        Checks.illegalArgument("all is wrong", () -> x.book(Integer.MAX_VALUE, Integer.MIN_VALUE, Integer.MIN_VALUE));
        DeskMoves none = new DeskMoves();
        Checks.bounds("persons, and there is no room", 1, 200, persons -> none.book(0, 1, persons));
        Checks.illegalArgument("from at to, and there is no room", () -> none.book(1, 1, 1));
        Checks.about("Promise 15, a booking's number, 0, 1, ..");
        DeskMoves fresh = Made.house(1);
        Checks.due("the first", 0, () -> fresh.book(0, END, 1));
        Checks.due("NONE has no number", NONE, () -> fresh.book(0, 1, 1));
        for (int b = 0; b < 150; b++) {
            fresh.cancel(b);
            int next = b + 1;
            Checks.due("the next, behind those that were given up", next, () -> fresh.book(0, END, 1));
        }
    }

    private static void promise15ThreeHundred() {
        Checks.about("Promise 15, illegal state: there were 300");
        DeskMoves x = Made.house(1);
        for (int b = 0; b < 299; b++) {
            x.book(b, b + 1, 1);
        }
        Checks.due("no room can be had", NONE, () -> x.book(298, 299, 1));
        Checks.due("the 300th", 299, () -> x.book(END - 1, END, 1));
        Checks.illegalState("the 301st", () -> x.book(5000, 5001, 1));
        Checks.illegalState("the 301st for which no room can be had", () -> x.book(0, 1, 1));
        x.cancel(0);
        x.cancel(299);
        Checks.illegalState("the 301st behind two that were given up", () -> x.book(0, 1, 1));
        Checks.due("its minute stays free", NONE, () -> x.inside(0, 0));
        Checks.about("Promise 15, illegal argument is named first");
        Checks.illegalArgument("the 301st for nobody", () -> x.book(0, 1, 0));
        Checks.illegalArgument("the 301st for 201", () -> x.book(0, 1, 201));
        Checks.illegalArgument("the 301st from at to", () -> x.book(1, 1, 1));
        Checks.illegalArgument("the 301st to 10081", () -> x.book(0, END + 1, 1));
    }

    private static void promise15OtherBookings() {
        Checks.about("Promise 15, no other booking in these minutes (the end is not with it)");
        DeskMoves x = Made.house(1);
        x.book(100, 200, 1);
        Checks.due("its last minute", NONE, () -> x.book(199, 300, 1));
        Checks.due("its first minute", NONE, () -> x.book(50, 101, 1));
        Checks.due("the same minutes", NONE, () -> x.book(100, 200, 1));
        Checks.due("a minute in it", NONE, () -> x.book(150, 151, 1));
        Checks.due("all round it", NONE, () -> x.book(99, 201, 1));
        Checks.due("the whole week", NONE, () -> x.book(0, END, 1));
        Checks.due("from its end on", 1, () -> x.book(200, END, 1));
        Checks.due("up to its start", 2, () -> x.book(0, 100, 1));
        for (int minute : new int[] {0, 99, 100, 199, 200, END - 1}) {
            Checks.due("no minute is left: " + minute, NONE, () -> x.book(minute, minute + 1, 1));
        }
        x.cancel(0);
        Checks.due("one that was given up is no other one", 3, () -> x.book(100, 200, 1));
        x.cancel(3);
        Checks.due("a minute ahead of what is free", NONE, () -> x.book(99, 200, 1));
        Checks.due("a minute behind what is free", NONE, () -> x.book(100, 201, 1));
        Checks.due("its first minute alone", 4, () -> x.book(100, 101, 1));
        Checks.due("its last minute alone", 5, () -> x.book(199, 200, 1));
        Checks.due("what is left between", 6, () -> x.book(101, 199, 1));
    }

    private static void promise15WhichRoom() {
        Checks.about("Promise 15, the fewest places of those that have enough; of several the least");
        DeskMoves x = Made.house(200, 5, 4, 5, 4, 6, 1, 199);
        int[][] asked = {{4, 2}, {4, 4}, {4, 1}, {5, 3}, {5, 5}, {6, 7}, {1, 6}, {1, 0}};
        for (int b = 0; b < asked.length; b++) {
            int booking = b;
            Checks.due("booking " + b, b, () -> x.book(0, 1, asked[booking][0]));
            Checks.due("its room", asked[b][1], () -> x.roomOf(booking));
        }
        Checks.due("all rooms are taken", NONE, () -> x.book(0, 1, 1));
        Checks.due("as many persons as the most places", 8, () -> x.book(1, 2, 200));
        Checks.due("it is room 0", 0, () -> x.roomOf(8));
        Checks.about("Promise 15, NONE if no room can be had");
        DeskMoves small = Made.house(5, 7);
        Checks.due("one more than the most places", NONE, () -> small.book(0, 1, 8));
        Checks.due("the most places", 0, () -> small.book(0, 1, 7));
        Checks.due("NONE leaves nothing over", 0, small::waste);
        Checks.due("no room is there", NONE, () -> new DeskMoves().book(0, END, 200));
    }

    private static void promise16() {
        Checks.about("Promise 16, illegal argument: there never was such a one");
        DeskMoves none = Made.house(1);
        Checks.illegalArgument("ahead of the first", () -> cancel(none, 0));
        Checks.illegalArgument("NONE", () -> cancel(none, NONE));
        DeskMoves x = Made.house(1);
        x.book(0, 10, 1);
        x.book(10, 20, 1);
        x.book(10, 20, 1);
        Checks.bounds("booking of 2", 0, 1, booking -> cancel(x, booking));
        DeskMoves full = threeHundred();
        Checks.bounds("booking of 300", 0, 299, booking -> cancel(full, booking));
        Checks.about("Promise 16, whether it was there still");
        Checks.due("the last of 300 was given up", 0, () -> cancel(full, 299));
        Checks.due("the last but one is there", 1, () -> cancel(full, 298));
        Checks.due("the last but one was given up", 0, () -> cancel(full, 298));
        Checks.due("the first was given up", 0, () -> cancel(full, 0));
        Checks.due("the second is there", 1, () -> cancel(full, 1));
        DeskMoves again = Made.house(1);
        again.book(0, 10, 1);
        again.cancel(0);
        again.book(0, 10, 1);
        Checks.due("another one has its minutes now", 0, () -> cancel(again, 0));
        Checks.due("that other one is there", 1, () -> again.inside(0, 0));
        Checks.due("that other one was there", 1, () -> cancel(again, 1));
        Checks.due("nothing is there", NONE, () -> again.inside(0, 0));
    }

    private static void promise17() {
        Checks.about("Promise 17, illegal argument: there never was such a one");
        DeskMoves none = Made.house(1);
        Checks.illegalArgument("ahead of the first", () -> none.roomOf(0));
        Checks.illegalArgument("NONE", () -> none.roomOf(NONE));
        DeskMoves x = Made.house(1);
        x.book(0, 10, 1);
        x.book(10, 20, 1);
        x.book(10, 20, 1);
        Checks.bounds("booking of 2", 0, 1, x::roomOf);
        DeskMoves full = threeHundred();
        Checks.bounds("booking of 300", 0, 299, full::roomOf);
        Checks.about("Promise 17, also of one that was given up");
        DeskMoves y = Made.house(9, 8, 7, 6, 5, 4, 3, 2);
        y.book(0, 1, 9);
        y.book(0, 1, 2);
        y.cancel(0);
        y.cancel(1);
        Checks.due("the first room", 0, () -> y.roomOf(0));
        Checks.due("the last room", 7, () -> y.roomOf(1));
        y.book(0, 1, 1);
        Checks.due("another one has its minutes now", 7, () -> y.roomOf(1));
    }

    private static void promise18() {
        Checks.about("Promise 18, a minute (0 .. 10079), there is no such room");
        DeskMoves few = Made.house(1, 1);
        Checks.bounds("minute", 0, END - 1, minute -> few.inside(1, minute));
        Checks.bounds("room of 2", 0, 1, room -> few.inside(room, END - 1));
        DeskMoves full = Made.house(1, 1, 1, 1, 1, 1, 1, 1);
        Checks.bounds("room of 8", 0, 7, room -> full.inside(room, 0));
        Checks.about("Promise 18, the booking that a room has in a minute; NONE");
        DeskMoves x = Made.house(1, 2);
        x.book(0, 1, 1);
        x.book(END - 1, END, 1);
        x.book(20, 30, 1);
        x.book(10, 20, 1);
        x.book(20, 30, 1);
        int[][] due = {{0, 0}, {1, NONE}, {9, NONE}, {10, 3}, {19, 3}, {20, 2}, {29, 2}, {30, NONE},
            {END - 2, NONE}, {END - 1, 1}};
        for (int[] pair : due) {
            Checks.due("in minute " + pair[0], pair[1], () -> x.inside(0, pair[0]));
        }
        Checks.due("the other room has another one", 4, () -> x.inside(1, 20));
        Checks.due("the other room has none", NONE, () -> x.inside(1, 19));
        x.cancel(2);
        Checks.due("given up, its first minute", NONE, () -> x.inside(0, 20));
        Checks.due("given up, its last minute", NONE, () -> x.inside(0, 29));
        Checks.due("the one ahead of it stays", 3, () -> x.inside(0, 19));
        DeskMoves week = Made.house(1);
        week.book(0, END, 1);
        Checks.due("the first minute of a week", 0, () -> week.inside(0, 0));
        Checks.due("the last minute of a week", 0, () -> week.inside(0, END - 1));
    }

    private static void promise19Arguments() {
        Checks.about("Promise 19, there is no such room");
        DeskMoves few = Made.house(1, 1);
        Checks.bounds("room of 2", 0, 1, room -> few.gap(room, 0, 1));
        DeskMoves full = Made.house(1, 1, 1, 1, 1, 1, 1, 1);
        Checks.bounds("room of 8", 0, 7, room -> full.gap(room, END - 1, END));
        Checks.about("Promise 19, from is not 0 .. 10079");
        Checks.bounds("from, one minute", 0, END - 1, from -> few.gap(0, from, 1));
        Checks.bounds("from, all minutes", 0, END - 1, from -> few.gap(0, from, END));
        Checks.about("Promise 19, minutes are not 1 .. 10080");
        Checks.bounds("minutes from 0 on", 1, END, minutes -> few.gap(0, 0, minutes));
        Checks.bounds("minutes from 10079 on", 1, END, minutes -> few.gap(0, END - 1, minutes));
        Checks.illegalArgument("both too large", () -> few.gap(0, Integer.MAX_VALUE, Integer.MAX_VALUE));
        Checks.illegalArgument("from too small, minutes too large", () -> few.gap(0, -1, END + 1));
    }

    private static void promise19FirstMinute() {
        Checks.about("Promise 19, the first minute from one on from which a room has no booking for so many minutes");
        DeskMoves x = Made.house(1, 1);
        x.book(30, 40, 1);
        x.book(10, 20, 1);
        x.book(40, 41, 1);
        int[][] due = {{0, 1, 0}, {0, 10, 0}, {0, 11, 41}, {1, 9, 1}, {1, 10, 20}, {9, 1, 9}, {9, 2, 20},
            {10, 1, 20}, {19, 1, 20}, {20, 1, 20}, {20, 10, 20}, {20, 11, 41}, {21, 9, 21}, {21, 10, 41},
            {29, 1, 29}, {30, 1, 41}, {39, 1, 41}, {40, 1, 41}, {41, 1, 41}, {42, 1, 42}};
        for (int[] row : due) {
            Checks.due("from " + row[0] + ", minutes " + row[1], row[2], () -> x.gap(0, row[0], row[1]));
        }
        Checks.due("the other room has none", 10, () -> x.gap(1, 10, 100));
        x.cancel(0);
        Checks.due("one that was given up, its minutes and those ahead of it", 20, () -> x.gap(0, 0, 20));
        Checks.due("one minute too many for these", 41, () -> x.gap(0, 0, 21));
    }

    private static void promise19UpToTheEnd() {
        Checks.about("Promise 19, (up to minute 10080); NONE");
        DeskMoves x = Made.house(1);
        Checks.due("the whole week", 0, () -> x.gap(0, 0, END));
        Checks.due("the whole week from 1 on", NONE, () -> x.gap(0, 1, END));
        Checks.due("all that is left from 1 on", 1, () -> x.gap(0, 1, END - 1));
        Checks.due("the last minute", END - 1, () -> x.gap(0, END - 1, 1));
        Checks.due("one more than the last minute", NONE, () -> x.gap(0, END - 1, 2));
        x.book(0, 1, 1);
        Checks.due("all but minute 0", 1, () -> x.gap(0, 0, END - 1));
        Checks.due("all of it", NONE, () -> x.gap(0, 0, END));
        x.book(END - 1, END, 1);
        Checks.due("all but the first and the last", 1, () -> x.gap(0, 0, END - 2));
        Checks.due("all but the first", NONE, () -> x.gap(0, 0, END - 1));
        Checks.due("the last is booked", NONE, () -> x.gap(0, END - 1, 1));
        Checks.due("the last but one", END - 2, () -> x.gap(0, END - 2, 1));
        x.book(1, END - 1, 1);
        Checks.due("nothing is free", NONE, () -> x.gap(0, 0, 1));
        x.cancel(1);
        Checks.due("the last is free again", END - 1, () -> x.gap(0, 0, 1));
        Checks.due("no more than that", NONE, () -> x.gap(0, 0, 2));
    }

    private static void promise20() {
        Checks.about("Promise 20, in all bookings that are there");
        DeskMoves x = Made.house(200, 5);
        Checks.due("rooms and no booking", 0, x::waste);
        x.book(0, END, 5);
        Checks.due("as many persons as places", 0, x::waste);
        x.book(0, END, 1);
        Checks.due("the most in one booking", 199, x::waste);
        x.book(0, END, 1);
        Checks.due("behind one that got no room", 199, x::waste);
        x.cancel(0);
        Checks.due("one that left nothing is given up", 199, x::waste);
        x.book(0, 1, 4);
        Checks.due("one place more", 200, x::waste);
        x.cancel(1);
        Checks.due("one that left 199 is given up", 1, x::waste);
        x.cancel(1);
        Checks.due("given up twice", 1, x::waste);
        x.cancel(2);
        Checks.due("all are given up", 0, x::waste);
        DeskMoves most = Made.house(200);
        for (int b = 0; b < 300; b++) {
            most.book(b, b + 1, 1);
        }
        Checks.due("the most in 300 bookings", 59700, most::waste);
    }
}
