import java.util.Arrays;

/** Each sentence of the document that names a boundary case of desks, persons and moves: a test of its own. */
public final class SeatingBoundariesTest {
    private static final int NONE = DeskMoves.NONE;
    private static final int[] NOBODY = {};

    private SeatingBoundariesTest() {
    }

    public static void main(String[] args) {
        promise1();
        promise2();
        promise3();
        promise4();
        promise5();
        promise6();
        promise7();
        promise7WhichSeating();
        promise8();
        promise9();
        promise10();
        promise11();
        promise12();
        promise13();
        Checks.end();
    }

    private static long bar(DeskMoves x, int person, int desk, boolean on) {
        return x.bar(person, desk, on) ? 1 : 0;
    }

    /** As many persons as desks, all in one ring, each wishes for the next one's desk. */
    private static DeskMoves ring(int desks, int persons) {
        int[] old = new int[persons];
        int[] wished = new int[persons];
        for (int p = 0; p < persons; p++) {
            old[p] = p;
            wished[p] = (p + 1) % persons;
        }
        return Made.moving(desks, old, wished);
    }

    private static void promise1() {
        newObjectHasNoDesks();
        newObjectHasNoPersons();
        newObjectHasNoRooms();
        newObjectHasNoSeating();
        lastCallOf512();
    }

    private static void newObjectHasNoDesks() {
        Checks.about("Promise 1, no desks");
        DeskMoves x = new DeskMoves();
        x.person();
        Checks.illegalArgument("wish for desk 0", () -> x.wish(0, 0, 0));
        Checks.illegalArgument("bar of desk 0", () -> bar(x, 0, 0, false));
        Checks.illegalArgument("sits at desk 0", () -> x.sits(0, 0));
        Checks.due("the first desk", 0, x::desk);
        Checks.due("two objects share no desks", 0, () -> new DeskMoves().desk());
    }

    private static void newObjectHasNoPersons() {
        Checks.about("Promise 1, no persons");
        DeskMoves x = new DeskMoves();
        x.desk();
        Checks.illegalArgument("wish of person 0", () -> x.wish(0, 0, 0));
        Checks.illegalArgument("bar for person 0", () -> bar(x, 0, 0, false));
        Checks.illegalArgument("sits of person 0", () -> x.sits(0, 0));
        Checks.illegalArgument("sits of person 0 nowhere", () -> x.sits(0, NONE));
        Checks.illegalArgument("deskOf(0)", () -> x.deskOf(0));
        Checks.illegalArgument("worthOf(0)", () -> x.worthOf(0));
        Checks.due("the first person", 0, x::person);
        Checks.due("two objects share no persons", 0, () -> new DeskMoves().person());
    }

    private static void newObjectHasNoRooms() {
        Checks.about("Promise 1, no rooms");
        DeskMoves x = new DeskMoves();
        Checks.illegalArgument("inside(0, 0)", () -> x.inside(0, 0));
        Checks.illegalArgument("gap(0, 0, 1)", () -> x.gap(0, 0, 1));
        Checks.illegalArgument("roomOf(0)", () -> x.roomOf(0));
        Checks.illegalArgument("cancel(0)", () -> x.cancel(0) ? 1 : 0);
        Checks.due("waste()", 0, x::waste);
        Checks.due("book(0, 1, 1)", NONE, () -> x.book(0, 1, 1));
        Checks.due("the first room", 0, () -> x.room(1));
        Checks.due("the first booking", 0, () -> x.book(0, 1, 1));
        Checks.due("two objects share no rooms", 0, () -> new DeskMoves().room(1));
    }

    private static void newObjectHasNoSeating() {
        Checks.about("Promise 1, no seating is made");
        DeskMoves x = new DeskMoves();
        Checks.due("moved()", NONE, x::moved);
        Checks.illegalState("steps()", x::steps);
        Checks.illegalState("step(0, 0)", () -> x.step(0, 0));
        Checks.illegalState("settle()", x::settle);
    }

    private static void lastCallOf512() {
        Checks.about("What it is, at most 512 calls");
        DeskMoves x = Made.moving(3, new int[] {0, 1}, new int[] {1, 0});
        for (int call = 3 + 2 + 4 + 1; call < 510; call++) {
            x.seat();
        }
        Checks.due("call 511", 18, x::seat);
        Checks.due("call 512", 3, x::steps);
    }

    private static void promise2() {
        Checks.about("Promise 2, desks are 0 .. 13, as they come");
        DeskMoves x = Made.office(0, 1);
        for (int d = 0; d < 14; d++) {
            int next = d;
            Checks.illegalArgument("desk " + d + " ahead of its call", () -> x.wish(0, next, 1));
            Checks.due("its number", d, x::desk);
            Checks.due("desk " + d + " behind its call", 0, () -> x.wish(0, next, 1));
        }
        Checks.about("Promise 2, illegal state: there are 14");
        x.wish(0, 13, 1000);
        x.seat();
        Checks.illegalState("a 15th desk", x::desk);
        Checks.illegalState("a 15th desk once more", x::desk);
        Checks.due("the seating is made still", 13, () -> x.deskOf(0));
        Checks.illegalArgument("desk 14 is not there", () -> x.wish(0, 14, 1));
        Checks.due("desk 13 is there", 1000, () -> x.wish(0, 13, 1));
    }

    private static void promise3() {
        Checks.about("Promise 3, persons are 0 .. 9, as they come");
        DeskMoves x = Made.office(11, 0);
        for (int p = 0; p < 10; p++) {
            int next = p;
            Checks.illegalArgument("person " + p + " ahead of its call", () -> x.deskOf(next));
            Checks.due("its number", p, x::person);
            Checks.due("person " + p + " behind its call", NONE, () -> x.deskOf(next));
        }
        Checks.about("Promise 3, illegal state: there are 10");
        x.wish(9, 10, 1000);
        x.seat();
        Checks.illegalState("an 11th person", x::person);
        Checks.illegalState("an 11th person once more", x::person);
        Checks.due("the seating is made still", 10, () -> x.deskOf(9));
        Checks.illegalArgument("person 10 is not there", () -> x.deskOf(10));
        Checks.due("ten persons are seated", 1000, x::seat);
    }

    private static void promise4() {
        Checks.about("Promise 4, a wish is 0 .. 1000");
        DeskMoves one = Made.office(1, 1);
        Checks.bounds("worth", 0, 1000, worth -> one.wish(0, 0, worth));
        Checks.due("the last one that was taken", 1000, () -> one.wish(0, 0, 0));
        Checks.due("the least one that was taken", 0, () -> one.wish(0, 0, 0));
        Checks.about("Promise 4, there is no such person, desk");
        DeskMoves few = Made.office(3, 2);
        Checks.bounds("person of 2", 0, 1, person -> few.wish(person, 0, 5));
        Checks.bounds("desk of 3", 0, 2, desk -> few.wish(0, desk, 5));
        DeskMoves full = Made.office(14, 10);
        Checks.bounds("person of 10", 0, 9, person -> full.wish(person, 13, 5));
        Checks.bounds("desk of 14", 0, 13, desk -> full.wish(9, desk, 5));
        wishAtFirst();
        wishForBarred();
    }

    private static void wishAtFirst() {
        Checks.about("Promise 4, 0 at first");
        DeskMoves x = Made.office(14, 10);
        for (int k = 0; k < 140; k++) {
            int person = k / 14;
            int desk = k % 14;
            Checks.due("wish of " + person + " for " + desk, 0, () -> x.wish(person, desk, 1 + person * 14 + desk));
        }
        for (int k = 139; k >= 0; k--) {
            int person = k / 14;
            int desk = k % 14;
            Checks.due("each has its own", 1 + k, () -> x.wish(person, desk, 0));
        }
    }

    private static void wishForBarred() {
        Checks.about("Promise 4, also for one that is barred for it");
        DeskMoves x = Made.office(2, 1);
        x.bar(0, 1, true);
        Checks.due("a wish for it", 0, () -> x.wish(0, 1, 1000));
        Checks.due("it is not had", 0, x::seat);
        Checks.due("what it was", 1000, () -> x.wish(0, 1, 999));
        x.bar(0, 1, false);
        Checks.due("it is had when it is not barred any more", 999, x::seat);
    }

    private static void promise5() {
        Checks.about("Promise 5, there is no such person, desk");
        DeskMoves few = Made.office(3, 2);
        Checks.bounds("person of 2", 0, 1, person -> bar(few, person, 0, true));
        Checks.bounds("desk of 3", 0, 2, desk -> bar(few, 0, desk, true));
        DeskMoves full = Made.office(14, 10);
        Checks.bounds("person of 10", 0, 9, person -> bar(full, person, 13, true));
        Checks.bounds("desk of 14", 0, 13, desk -> bar(full, 9, desk, true));
        Checks.bounds("person of 10, not barred", 0, 9, person -> bar(full, person, 13, false));
        Checks.bounds("desk of 14, not barred", 0, 13, desk -> bar(full, 9, desk, false));
        Checks.about("Promise 5, whether it was");
        DeskMoves x = Made.office(14, 10);
        for (int k = 0; k < 140; k++) {
            int person = k / 14;
            int desk = k % 14;
            Checks.due("no desk is barred at first", 0, () -> bar(x, person, desk, person % 2 == 0));
        }
        for (int k = 0; k < 140; k++) {
            int person = k / 14;
            int desk = k % 14;
            Checks.due("each has its own", 1 - person % 2, () -> bar(x, person, desk, true));
        }
        Checks.due("barred twice", 1, () -> bar(x, 9, 13, true));
        Checks.due("barred twice is free at once", 1, () -> bar(x, 9, 13, false));
        Checks.due("free twice", 0, () -> bar(x, 9, 13, false));
    }

    private static void promise6() {
        Checks.about("Promise 6, there is no such person, desk");
        DeskMoves few = Made.office(3, 2);
        Checks.bounds("person of 2", 0, 1, person -> few.sits(person, person));
        Checks.bounds("person of 2, no desk", 0, 1, person -> few.sits(person, NONE));
        Checks.bounds("desk of 3 (or -1, none)", NONE, 2, desk -> few.sits(0, desk));
        DeskMoves full = Made.office(14, 10);
        Checks.bounds("person of 10", 0, 9, person -> full.sits(person, person));
        Checks.bounds("desk of 14 (or -1, none)", NONE, 13, desk -> full.sits(9, desk));
        oldDeskOrNone();
        oldDeskOfAnother();
    }

    private static void oldDeskOrNone() {
        Checks.about("Promise 6, an old desk, or none (NONE): which it was");
        DeskMoves x = Made.office(14, 10);
        for (int p = 0; p < 10; p++) {
            int person = p;
            Checks.due("none at first", NONE, () -> x.sits(person, NONE));
            Checks.due("several may have none", NONE, () -> x.sits(person, 13 - person));
        }
        Checks.due("its own once more", 13, () -> x.sits(0, 13));
        Checks.due("another one that is nobody's", 13, () -> x.sits(0, 0));
        Checks.due("what it was is nobody's", 4, () -> x.sits(9, 13));
        Checks.due("none again", 0, () -> x.sits(0, NONE));
        Checks.due("none was it", NONE, () -> x.sits(0, 0));
        x.bar(0, 1, true);
        Checks.due("a barred one", 0, () -> x.sits(0, 1));
    }

    private static void oldDeskOfAnother() {
        Checks.about("Promise 6, illegal state: it is that of another one");
        DeskMoves x = Made.office(14, 10);
        x.sits(0, 0);
        x.sits(9, 13);
        Checks.illegalState("the first one's", () -> x.sits(9, 0));
        Checks.illegalState("the last one's", () -> x.sits(0, 13));
        Checks.illegalState("for one who has none", () -> x.sits(5, 13));
        Checks.due("the first one has its own still", 0, () -> x.sits(0, NONE));
        Checks.due("the last one has its own still", 13, () -> x.sits(9, 0));
        Checks.due("nobody has it any more", NONE, () -> x.sits(0, 13));
        Checks.about("Promise 6, illegal argument is named first");
        Checks.illegalArgument("no such person, another one's desk", () -> x.sits(10, 0));
        Checks.illegalArgument("person -1, another one's desk", () -> x.sits(-1, 0));
        Checks.about("Promise 6, old desks of a settled seating");
        DeskMoves settled = Made.moving(3, new int[] {0, 1}, new int[] {1, 2});
        settled.settle();
        Checks.illegalState("it is that of another one now", () -> settled.sits(1, 1));
        Checks.due("it is nobody's now", 1, () -> settled.sits(0, 0));
    }

    private static void promise7() {
        Checks.about("Promise 7, nobody is there");
        Checks.due("no desk, no person", 0, () -> new DeskMoves().seat());
        Checks.due("a desk, no person", 0, () -> Made.office(1, 0).seat());
        Checks.about("Promise 7, NONE if there is none");
        Checks.due("no desk, a person", NONE, () -> Made.office(0, 1).seat());
        Checks.due("9 desks, 10 persons", NONE, () -> Made.office(9, 10).seat());
        Checks.due("10 desks, 10 persons", 0, () -> Made.office(10, 10).seat());
        Checks.due("14 desks, 10 persons", 0, () -> Made.office(14, 10).seat());
        allDesksBarred();
        tooFewDesksForSome();
        Checks.about("Promise 7, its worth: the sum of the wishes");
        DeskMoves best = Made.office(10, 10);
        for (int p = 0; p < 10; p++) {
            best.wish(p, 9 - p, 1000);
        }
        Checks.due("ten greatest wishes", 10000, best::seat);
        Checks.desksAre("ten greatest wishes", best, 9, 8, 7, 6, 5, 4, 3, 2, 1, 0);
        Checks.due("the same once more", 10000, best::seat);
    }

    private static void allDesksBarred() {
        Checks.about("Promise 7, a desk that is not barred for it");
        DeskMoves x = Made.office(14, 10);
        Made.mayHave(x, 14, 9);
        x.wish(9, 3, 1000);
        Checks.due("all desks are barred for the last one", NONE, x::seat);
        Checks.due("deskOf(0)", NONE, () -> x.deskOf(0));
        Checks.due("deskOf(9)", NONE, () -> x.deskOf(9));
        Checks.due("moved()", NONE, x::moved);
        Checks.illegalState("steps()", x::steps);
        Checks.illegalState("step(0, 0)", () -> x.step(0, 0));
        Checks.illegalState("settle()", x::settle);
        Checks.illegalState("worthOf(0)", () -> x.worthOf(0));
        x.bar(9, 0, false);
        Checks.due("all but desk 0", 0, x::seat);
        Checks.desksAre("all but desk 0", x, 1, 2, 3, 4, 5, 6, 7, 8, 9, 0);
        x.bar(9, 0, true);
        x.bar(9, 13, false);
        Checks.due("all but desk 13", 0, x::seat);
        Checks.desksAre("all but desk 13", x, 0, 1, 2, 3, 4, 5, 6, 7, 8, 13);
    }

    private static void tooFewDesksForSome() {
        Checks.about("Promise 7, no two the same");
        DeskMoves x = Made.office(14, 10);
        for (int p = 5; p < 10; p++) {
            Made.mayHave(x, 14, p, 10, 11, 12, 13);
        }
        Checks.due("five persons for four desks", NONE, x::seat);
        x.bar(7, 9, false);
        Checks.due("five persons for five desks", 0, x::seat);
        Checks.desksAre("five persons for five desks", x, 0, 1, 2, 3, 4, 10, 11, 9, 12, 13);
    }

    private static void promise7WhichSeating() {
        Checks.about("Promise 7, the greatest worth, of these the fewest moved");
        DeskMoves x = Made.office(10, 10);
        for (int p = 0; p < 10; p++) {
            x.sits(p, p);
            Made.mayHave(x, 10, p, p, (p + 1) % 10);
        }
        Checks.due("nobody wishes", 0, x::seat);
        Checks.due("nobody is moved", 0, x::moved);
        x.wish(9, 0, 1);
        Checks.due("a wish of 1", 1, x::seat);
        Checks.due("ten are moved for it", 10, x::moved);
        x.wish(0, 0, 1);
        Checks.due("a wish of 1 on each side", 1, x::seat);
        Checks.due("nobody is moved for it", 0, x::moved);
        fewestMovedBeforeLeastDesks();
        leastDesksInOrder();
    }

    private static void fewestMovedBeforeLeastDesks() {
        Checks.about("Promise 7, the fewest moved, of these the least desk for person 0");
        DeskMoves x = Made.office(14, 10);
        for (int p = 0; p < 10; p++) {
            x.sits(p, 13 - p);
        }
        Checks.due("nobody wishes", 0, x::seat);
        Checks.desksAre("all keep the greatest desks", x, 13, 12, 11, 10, 9, 8, 7, 6, 5, 4);
        x.sits(0, NONE);
        x.seat();
        Checks.desksAre("one without an old desk", x, 0, 12, 11, 10, 9, 8, 7, 6, 5, 4);
        DeskMoves y = Made.office(14, 2);
        y.sits(1, 0);
        y.seat();
        Checks.desksAre("person 0 moves nobody to get desk 0", y, 1, 0);
    }

    private static void leastDesksInOrder() {
        Checks.about("Promise 7, the least desk for person 0, of these for person 1, and so on");
        DeskMoves first = Made.office(14, 10);
        Made.mayHave(first, 14, 0, 0, 13);
        for (int p = 1; p < 10; p++) {
            first.bar(p, 13, true);
        }
        Made.mayHave(first, 14, 1, 0, 12);
        first.seat();
        Checks.desksAre("person 0 before person 1", first, 0, 12, 1, 2, 3, 4, 5, 6, 7, 8);
        DeskMoves last = Made.office(10, 10);
        Made.mayHave(last, 10, 9, 8, 9);
        last.seat();
        Checks.desksAre("person 8 before person 9", last, 0, 1, 2, 3, 4, 5, 6, 7, 8, 9);
        last.wish(9, 8, 1);
        last.seat();
        Checks.desksAre("worth before person 8", last, 0, 1, 2, 3, 4, 5, 6, 7, 9, 8);
        DeskMoves sole = Made.office(14, 10);
        for (int p = 1; p < 10; p++) {
            sole.bar(p, 0, true);
            sole.bar(p, 2, p != 1);
            sole.bar(p, 1, true);
        }
        sole.bar(0, 0, true);
        sole.bar(0, 1, true);
        sole.seat();
        Checks.desksAre("person 0 takes what person 1 would have", sole, 2, 3, 4, 5, 6, 7, 8, 9, 10, 11);
    }

    private static void promise8() {
        Checks.about("Promise 8, there is no such person");
        DeskMoves few = Made.office(2, 2);
        Checks.bounds("person of 2, no seating", 0, 1, few::deskOf);
        few.seat();
        Checks.bounds("person of 2", 0, 1, few::deskOf);
        DeskMoves full = Made.office(14, 10);
        Checks.bounds("person of 10, no seating", 0, 9, full::deskOf);
        full.wish(9, 13, 1);
        full.seat();
        Checks.bounds("person of 10", 0, 9, full::deskOf);
        Checks.due("the least desk", 0, () -> full.deskOf(0));
        Checks.due("the greatest desk", 13, () -> full.deskOf(9));
        noSeatingIsMadeBehind();
        seatingStaysBehind();
    }

    private static void noSeatingIsMadeBehind() {
        Checks.about("Promise 8, NONE if none is made");
        DeskMoves x = Made.office(2, 1);
        Checks.due("ahead of seat()", NONE, () -> x.deskOf(0));
        x.seat();
        Checks.due("behind seat()", 0, () -> x.deskOf(0));
        x.wish(0, 0, 0);
        Checks.due("behind wish() of what it was", NONE, () -> x.deskOf(0));
        x.seat();
        x.bar(0, 1, false);
        Checks.due("behind bar() of what it was", NONE, () -> x.deskOf(0));
        x.seat();
        x.sits(0, NONE);
        Checks.due("behind sits() of what it was", NONE, () -> x.deskOf(0));
        x.seat();
        x.desk();
        Checks.due("behind desk()", NONE, () -> x.deskOf(0));
        x.seat();
        x.person();
        Checks.due("behind person()", NONE, () -> x.deskOf(0));
        Checks.due("the new person, behind person()", NONE, () -> x.deskOf(1));
        x.seat();
        x.settle();
        Checks.due("behind settle()", NONE, () -> x.deskOf(0));
    }

    private static void seatingStaysBehind() {
        Checks.about("Promise 8, behind other calls the seating stays made");
        DeskMoves x = Made.office(2, 1);
        x.wish(0, 1, 1);
        x.seat();
        x.room(2);
        Checks.due("behind room()", 1, () -> x.deskOf(0));
        x.book(0, 1, 1);
        Checks.due("behind book()", 1, () -> x.deskOf(0));
        x.cancel(0);
        Checks.due("behind cancel()", 1, () -> x.deskOf(0));
        x.seat();
        Checks.due("behind seat() once more", 1, () -> x.deskOf(0));
        x.worthOf(0);
        Checks.due("behind worthOf()", 1, () -> x.deskOf(0));
    }

    private static void promise9() {
        Checks.about("Promise 9, NONE if none is made");
        DeskMoves x = Made.office(1, 1);
        Checks.due("ahead of seat()", NONE, x::moved);
        x.seat();
        Checks.due("behind seat()", 0, x::moved);
        x.bar(0, 0, true);
        Checks.due("behind bar()", NONE, x::moved);
        x.seat();
        Checks.due("behind seat() that answers NONE", NONE, x::moved);
        x.bar(0, 0, false);
        x.seat();
        x.settle();
        Checks.due("behind settle()", NONE, x::moved);
        Checks.about("Promise 9, how many are moved");
        Checks.due("nobody is there", 0, () -> Made.moving(0, NOBODY, NOBODY).moved());
        Checks.due("all ten", 10, () -> ring(10, 10).moved());
        Checks.due("from desk 0 to desk 13", 1, () -> Made.moving(14, new int[] {0}, new int[] {13}).moved());
        Checks.due("from desk 13 to desk 0", 1, () -> Made.moving(14, new int[] {13}, new int[] {0}).moved());
        Checks.due("one stays", 0, () -> Made.moving(14, new int[] {0}, new int[] {0}).moved());
        Checks.due("one was away", 0, () -> Made.moving(14, new int[] {NONE}, new int[] {0}).moved());
    }

    private static void promise10() {
        Checks.about("Promise 10, illegal state: no seating is made");
        DeskMoves x = Made.office(1, 1);
        Checks.illegalState("ahead of seat()", x::steps);
        x.seat();
        Checks.due("behind seat()", 1, x::steps);
        x.desk();
        Checks.illegalState("behind desk()", x::steps);
        x.seat();
        x.settle();
        Checks.illegalState("behind settle()", x::steps);
        Checks.about("Promise 10, how many steps it takes");
        Checks.due("nobody is there", 0, () -> Made.moving(0, NOBODY, NOBODY).steps());
        Checks.due("all stay, no desk is free", 0, () -> Made.moving(2, new int[] {0, 1}, new int[] {0, 1}).steps());
        Checks.due("ten were away", 10, () -> Made.moving(10, noOld(10), tenDown()).steps());
        Checks.due("a ring of ten", 11, () -> ring(11, 10).steps());
        Checks.due("five rings, one free desk", 15, () -> Made.moving(11, tenUp(), tenPairs()).steps());
        Checks.due("five rings, four free desks", 15, () -> Made.moving(14, tenUp(), tenPairs()).steps());
        Checks.about("Promise 10, -2 if it comes to be STUCK");
        Checks.due("a ring of ten, no free desk", -2, () -> ring(10, 10).steps());
        Checks.due("a ring of two, no free desk", -2, () -> ring(2, 2).steps());
        Checks.due("a ring of two, one free desk", 3, () -> ring(3, 2).steps());
        Checks.due("the free desk is taken first", -2,
            () -> Made.moving(3, new int[] {0, 1, NONE}, new int[] {1, 0, 2}).steps());
        DeskMoves y = ring(2, 2);
        y.desk();
        y.seat();
        Checks.due("a free desk came to be there", 3, y::steps);
        Checks.due("a chain, one free desk", 2, () -> Made.moving(3, new int[] {0, 1}, new int[] {1, 2}).steps());
    }

    private static int[] noOld(int persons) {
        int[] old = new int[persons];
        Arrays.fill(old, NONE);
        return old;
    }

    private static int[] tenUp() {
        return new int[] {0, 1, 2, 3, 4, 5, 6, 7, 8, 9};
    }

    private static int[] tenDown() {
        return new int[] {9, 8, 7, 6, 5, 4, 3, 2, 1, 0};
    }

    private static int[] tenPairs() {
        return new int[] {1, 0, 3, 2, 5, 4, 7, 6, 9, 8};
    }

    private static void promise11() {
        stepBounds();
        stepWithoutSeating();
        stepsThatCanBeGone();
        whoGoes();
        whereItGoes();
    }

    private static void stepBounds() {
        Checks.about("Promise 11, illegal argument: what, k is below 0, or there is no such step");
        DeskMoves x = ring(3, 2);
        Checks.bounds("what of the first step", 0, 2, what -> x.step(0, what));
        Checks.bounds("what of the last step", 0, 2, what -> x.step(2, what));
        for (int what = 0; what < 3; what++) {
            int asked = what;
            Checks.bounds("k of three, what " + what, 0, 2, k -> x.step(k, asked));
        }
        DeskMoves most = Made.moving(14, tenUp(), tenPairs());
        Checks.bounds("k of the most steps", 0, 14, k -> most.step(k, 2));
        DeskMoves still = Made.moving(1, new int[] {0}, new int[] {0});
        Checks.illegalArgument("no step is needed", () -> still.step(0, 0));
        DeskMoves nobody = Made.moving(0, NOBODY, NOBODY);
        Checks.illegalArgument("nobody is there", () -> nobody.step(0, 0));
    }

    private static void stepWithoutSeating() {
        Checks.about("Promise 11, illegal state: no seating is made");
        DeskMoves x = ring(3, 2);
        x.desk();
        Checks.illegalState("a step that there was", () -> x.step(0, 0));
        Checks.illegalState("what 2", () -> x.step(0, 2));
        Checks.illegalState("a step that there never was", () -> x.step(3, 0));
        Checks.illegalState("the greatest k", () -> x.step(Integer.MAX_VALUE, 0));
        Checks.about("Promise 11, illegal argument is named first");
        Checks.illegalArgument("what -1", () -> x.step(0, -1));
        Checks.illegalArgument("what 3", () -> x.step(0, 3));
        Checks.illegalArgument("k -1", () -> x.step(-1, 0));
        Checks.illegalArgument("k and what", () -> x.step(Integer.MIN_VALUE, Integer.MAX_VALUE));
        x.seat();
        x.settle();
        Checks.illegalState("behind settle()", () -> x.step(0, 0));
    }

    private static void stepsThatCanBeGone() {
        Checks.about("Promise 11, of those that can be gone, if it comes to be STUCK");
        DeskMoves none = ring(2, 2);
        Checks.illegalArgument("none can be gone", () -> none.step(0, 0));
        DeskMoves x = Made.moving(4, new int[] {0, 1, 2, NONE}, new int[] {1, 0, 3, 2});
        Checks.due("it comes to be STUCK", -2, x::steps);
        Checks.stepIs("the first", x, 0, 2, 2, 3);
        Checks.stepIs("the last", x, 1, 3, NONE, 2);
        Checks.bounds("k of two", 0, 1, k -> x.step(k, 0));
    }

    private static void whoGoes() {
        Checks.about("Promise 11, of those whose desk is free the least goes to it");
        DeskMoves x = Made.moving(6, new int[] {0, NONE, 3}, new int[] {3, 5, 4});
        Checks.stepIs("the least whose desk is free", x, 0, 1, NONE, 5);
        Checks.stepIs("the next one whose desk is free", x, 1, 2, 3, 4);
        Checks.stepIs("one whose desk came to be free", x, 2, 0, 0, 3);
        DeskMoves y = Made.moving(4, new int[] {0, 1, NONE}, new int[] {1, 2, 3});
        Checks.stepIs("person 1 makes room", y, 0, 1, 1, 2);
        Checks.stepIs("the least again, person 0", y, 1, 0, 0, 1);
        Checks.stepIs("then person 2", y, 2, 2, NONE, 3);
        Checks.about("Promise 11, NONE: it was away");
        DeskMoves away = Made.moving(14, noOld(10), new int[] {13, 1, 2, 3, 4, 5, 6, 7, 8, 0});
        Checks.stepIs("the first one", away, 0, 0, NONE, 13);
        Checks.stepIs("the last one", away, 9, 9, NONE, 0);
    }

    private static void whereItGoes() {
        Checks.about("Promise 11, if no such desk is free the least one of them goes to the least free desk");
        DeskMoves x = Made.moving(14, new int[] {2, 4, 3}, new int[] {2, 3, 4});
        Checks.stepIs("the least who is not there, desk 0", x, 0, 1, 4, 0);
        Checks.stepIs("then the other", x, 1, 2, 3, 4);
        Checks.stepIs("then it is free", x, 2, 1, 0, 3);
        Checks.illegalArgument("then all are there", () -> x.step(3, 0));
        DeskMoves last = Made.moving(11, tenUp(), tenPairs());
        Checks.stepIs("desk 10 is the least that is free", last, 0, 0, 0, 10);
        Checks.stepIs("the last ring", last, 12, 8, 8, 10);
        Checks.stepIs("the last step", last, 14, 8, 10, 9);
        DeskMoves barred = Made.office(3, 2);
        barred.sits(0, 0);
        barred.sits(1, 1);
        Made.mayHave(barred, 3, 0, 1);
        Made.mayHave(barred, 3, 1, 0);
        barred.seat();
        Checks.stepIs("it is no seating: the desk may be barred", barred, 0, 0, 0, 2);
    }

    private static void promise12() {
        Checks.about("Promise 12, illegal state: no seating is made");
        DeskMoves x = Made.office(2, 1);
        x.sits(0, 1);
        Checks.illegalState("ahead of seat()", x::settle);
        Checks.due("the old desk stays", 1, () -> x.sits(0, 1));
        Checks.illegalState("behind sits()", x::settle);
        x.wish(0, 0, 1);
        x.seat();
        Checks.due("behind seat()", 1, x::settle);
        Checks.about("Promise 12, no seating is made then");
        Checks.illegalState("settle() twice", x::settle);
        Checks.illegalState("steps()", x::steps);
        Checks.illegalState("worthOf(0)", () -> x.worthOf(0));
        Checks.due("moved()", NONE, x::moved);
        Checks.about("Promise 12, makes old desks those of the seating");
        Checks.due("the old desk is the seating's", 0, () -> x.sits(0, 0));
        x.seat();
        Checks.due("nobody is moved behind it", 0, x::moved);
        Checks.due("no step behind it", 0, x::steps);
        howManyAreOthers();
    }

    private static void howManyAreOthers() {
        Checks.about("Promise 12, how many are others than before");
        Checks.due("nobody is there", 0, () -> Made.moving(0, NOBODY, NOBODY).settle());
        Checks.due("all stay", 0, () -> Made.moving(2, new int[] {0, 1}, new int[] {0, 1}).settle());
        Checks.due("all ten move", 10, () -> ring(11, 10).settle());
        Checks.due("all ten were away", 10, () -> Made.moving(10, noOld(10), tenDown()).settle());
        Checks.due("one of three", 1, () -> Made.moving(4, new int[] {0, 1, 2}, new int[] {0, 1, 3}).settle());
        DeskMoves stuck = ring(10, 10);
        Checks.due("also if it comes to be STUCK", 10, stuck::settle);
        for (int p = 0; p < 10; p++) {
            int person = p;
            Checks.due("old desk of " + p, (p + 1) % 10, () -> stuck.sits(person, NONE));
        }
    }

    private static void promise13() {
        Checks.about("Promise 13, there is no such person");
        DeskMoves few = Made.office(2, 2);
        few.seat();
        Checks.bounds("person of 2", 0, 1, few::worthOf);
        DeskMoves full = Made.office(14, 10);
        full.seat();
        Checks.bounds("person of 10", 0, 9, full::worthOf);
        Checks.about("Promise 13, illegal state: no seating is made");
        DeskMoves x = Made.office(2, 2);
        Checks.illegalState("ahead of seat()", () -> x.worthOf(0));
        x.seat();
        Checks.due("behind seat()", 0, () -> x.worthOf(0));
        x.wish(0, 0, 0);
        Checks.illegalState("behind wish()", () -> x.worthOf(1));
        Checks.about("Promise 13, illegal argument is named first");
        Checks.illegalArgument("person 2, no seating", () -> x.worthOf(2));
        Checks.illegalArgument("person -1, no seating", () -> x.worthOf(-1));
        howMuchLess();
        othersBetterOff();
    }

    private static void howMuchLess() {
        Checks.about("Promise 13, how much less the worth would be without a person");
        DeskMoves alone = Made.office(1, 1);
        alone.wish(0, 0, 1000);
        alone.seat();
        Checks.due("the only person", 1000, () -> alone.worthOf(0));
        DeskMoves x = Made.office(1, 2);
        Checks.due("one desk for two", NONE, x::seat);
        Checks.illegalState("there is no seating with it", () -> x.worthOf(1));
        DeskMoves full = Made.office(14, 10);
        for (int p = 0; p < 10; p++) {
            full.wish(p, p, 1000);
            full.wish(p, p + 1, 999);
        }
        Checks.due("all have what they wish", 10000, full::seat);
        Checks.due("without the first one", 1000, () -> full.worthOf(0));
        Checks.due("without the last one", 1000, () -> full.worthOf(9));
    }

    private static void othersBetterOff() {
        Checks.about("Promise 13, the others seated anew; the seating stays");
        DeskMoves x = Made.office(10, 10);
        for (int p = 0; p < 9; p++) {
            Made.mayHave(x, 10, p, p, p + 1);
            x.wish(p, p, 1000);
            x.sits(p, p);
        }
        Made.mayHave(x, 10, 9, 0);
        Checks.due("the last one moves all others", 0, x::seat);
        Checks.due("without it all others stay", -9000, () -> x.worthOf(9));
        Checks.due("without the first one", -8000, () -> x.worthOf(0));
        Checks.desksAre("the seating stays", x, 1, 2, 3, 4, 5, 6, 7, 8, 9, 0);
        Checks.due("moved() stays", 9, x::moved);
        Checks.due("steps() stays", 10, x::steps);
        Checks.stepIs("the steps stay", x, 0, 8, 8, 9);
        Checks.due("settle() takes the seating that stays", 10, x::settle);
    }
}
