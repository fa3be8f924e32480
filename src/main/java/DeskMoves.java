/**
 * Desks for persons, the moves that bring everybody there, and rooms that are booked.
 * What each call promises stands in the document DOC.md.
 */
public final class DeskMoves {
    /** There is none. */
    public static final int NONE = -1;

    private static final int MAX_DESKS = 14;
    private static final int MAX_PERSONS = 10;
    private static final int MAX_WISH = 1000;
    private static final int MAX_ROOMS = 8;
    private static final int MAX_PLACES = 200;
    private static final int MAX_BOOKINGS = 300;
    private static final int END_MINUTE = 10080;
    private static final int STUCK = -2;
    // Every person goes home once, and each ring of persons (of two at least) costs one step more.
    private static final int MAX_STEPS = MAX_PERSONS + MAX_PERSONS / 2;

    // One number holds all that ranks a seating, the weightier aim in the higher bits, so that the
    // cheapest seating is the one that is made: 10 desk numbers of 4 bits each, then the moved (up
    // to 10, 4 bits), then the wishes missed (up to 10000). A seating's cost stays below 2^58.
    private static final int DESK_BITS = 4;
    private static final long MOVE_COST = 1L << (DESK_BITS * MAX_PERSONS);
    private static final long MISSED_WISH_COST = MOVE_COST << 4;
    // Above every price and distance of a search: a chain adds less than 2^58 to a price, and a
    // matching takes at most 10 chains.
    private static final long FAR = 1L << 62;

    private final Person[] persons = new Person[MAX_PERSONS];
    private final Matcher matcher = new Matcher();
    private final Walk walk = new Walk();
    private final Room[] rooms = new Room[MAX_ROOMS];
    private final Booking[] bookings = new Booking[MAX_BOOKINGS];
    private int deskCount;
    private int personCount;
    private int roomCount;
    private int bookingCount;
    private boolean seatingMade;
    private int seatingWorth;

    public DeskMoves() {
        for (int p = 0; p < MAX_PERSONS; p++) {
            persons[p] = new Person(p);
        }
        for (int r = 0; r < MAX_ROOMS; r++) {
            rooms[r] = new Room(r);
        }
    }

    public int desk() throws IllegalStateException {
        if (deskCount >= MAX_DESKS) {
            throw new IllegalStateException("there are 14 desks");
        }
        seatingMade = false;
        deskCount++;
        return deskCount - 1;
    }

    public int person() throws IllegalStateException {
        if (personCount >= MAX_PERSONS) {
            throw new IllegalStateException("there are 10 persons");
        }
        seatingMade = false;
        personCount++;
        return personCount - 1;
    }

    public int wish(int person, int desk, int worth) throws IllegalArgumentException {
        checkPerson(person);
        checkDesk(desk);
        if (worth < 0 || worth > MAX_WISH) {
            throw new IllegalArgumentException("a wish is 0 .. 1000");
        }
        int before = persons[person].wishes[desk];
        persons[person].wishes[desk] = worth;
        seatingMade = false;
        return before;
    }

    public boolean bar(int person, int desk, boolean on) throws IllegalArgumentException {
        checkPerson(person);
        checkDesk(desk);
        boolean before = persons[person].barred[desk];
        persons[person].barred[desk] = on;
        seatingMade = false;
        return before;
    }

    public int sits(int person, int desk) throws IllegalArgumentException, IllegalStateException {
        checkPerson(person);
        if (desk != NONE) {
            checkDesk(desk);
            checkNobodyElseHas(person, desk);
        }
        int before = persons[person].oldDesk;
        persons[person].oldDesk = desk;
        seatingMade = false;
        return before;
    }

    public int seat() {
        int worth = matcher.match(persons, personCount, NONE, deskCount);
        if (worth == NONE) {
            seatingMade = false;
            return NONE;
        }
        matcher.tellPersons();
        walk.plan(persons, personCount, deskCount);
        seatingMade = true;
        seatingWorth = worth;
        return worth;
    }

    public int deskOf(int person) throws IllegalArgumentException {
        checkPerson(person);
        return seatingMade ? persons[person].newDesk : NONE;
    }

    public int moved() {
        if (!seatingMade) {
            return NONE;
        }
        int count = 0;
        for (int p = 0; p < personCount; p++) {
            if (persons[p].wouldMoveTo(persons[p].newDesk)) {
                count++;
            }
        }
        return count;
    }

    public int steps() throws IllegalStateException {
        checkSeatingMade();
        return walk.stuck ? STUCK : walk.count;
    }

    public int step(int k, int what) throws IllegalArgumentException, IllegalStateException {
        if (what < 0 || what > 2 || k < 0) {
            throw new IllegalArgumentException("what is 0 .. 2, k is not below 0");
        }
        checkSeatingMade();
        if (k >= walk.count) {
            throw new IllegalArgumentException("there is no such step");
        }
        if (what == 0) {
            return walk.goers[k];
        }
        return what == 1 ? walk.starts[k] : walk.goals[k];
    }

    public int settle() throws IllegalStateException {
        checkSeatingMade();
        int others = 0;
        for (int p = 0; p < personCount; p++) {
            Person person = persons[p];
            if (person.oldDesk != person.newDesk) {
                others++;
            }
            person.oldDesk = person.newDesk;
        }
        seatingMade = false;
        return others;
    }

    public int worthOf(int person) throws IllegalArgumentException, IllegalStateException {
        checkPerson(person);
        checkSeatingMade();
        return seatingWorth - matcher.match(persons, personCount, person, deskCount);
    }

    // ---- rooms

    public int room(int places) throws IllegalArgumentException, IllegalStateException {
        if (places < 1 || places > MAX_PLACES) {
            throw new IllegalArgumentException("places are 1 .. 200");
        }
        if (roomCount >= MAX_ROOMS) {
            throw new IllegalStateException("there are 8 rooms");
        }
        rooms[roomCount].places = places;
        roomCount++;
        return roomCount - 1;
    }

    public int book(int from, int to, int persons) throws IllegalArgumentException, IllegalStateException {
        if (persons < 1 || persons > MAX_PLACES) {
            throw new IllegalArgumentException("persons are 1 .. 200");
        }
        if (from < 0 || to > END_MINUTE || from >= to) {
            throw new IllegalArgumentException("minutes are 0 .. 10080, from before to");
        }
        if (bookingCount >= MAX_BOOKINGS) {
            throw new IllegalStateException("there were 300 bookings");
        }
        Room best = bestRoom(from, to, persons);
        if (best == null) {
            return NONE;
        }
        Booking booking = new Booking(bookingCount, best, from, to, persons);
        best.add(booking);
        bookings[bookingCount] = booking;
        bookingCount++;
        return booking.number;
    }

    public boolean cancel(int booking) throws IllegalArgumentException {
        Booking gone = bookingNumbered(booking);
        return gone.bookedRoom.remove(gone);
    }

    public int roomOf(int booking) throws IllegalArgumentException {
        return bookingNumbered(booking).bookedRoom.number;
    }

    public int inside(int room, int minute) throws IllegalArgumentException {
        checkRoom(room);
        checkMinute(minute);
        Booking found = rooms[room].bookingWithin(minute, minute + 1);
        return found == null ? NONE : found.number;
    }

    public int gap(int room, int from, int minutes) throws IllegalArgumentException {
        checkRoom(room);
        checkMinute(from);
        if (minutes < 1 || minutes > END_MINUTE) {
            throw new IllegalArgumentException("minutes are 1 .. 10080");
        }
        int start = rooms[room].firstFree(from, minutes);
        return start + minutes <= END_MINUTE ? start : NONE;
    }

    public int waste() {
        int sum = 0;
        for (int r = 0; r < roomCount; r++) {
            sum += rooms[r].placesLeftOver();
        }
        return sum;
    }

    // ---- what calls have in common

    private void checkPerson(int person) {
        if (person < 0 || person >= personCount) {
            throw new IllegalArgumentException("there is no such person");
        }
    }

    private void checkDesk(int desk) {
        if (desk < 0 || desk >= deskCount) {
            throw new IllegalArgumentException("there is no such desk");
        }
    }

    private void checkRoom(int room) {
        if (room < 0 || room >= roomCount) {
            throw new IllegalArgumentException("there is no such room");
        }
    }

    private void checkMinute(int minute) {
        if (minute < 0 || minute >= END_MINUTE) {
            throw new IllegalArgumentException("a minute is 0 .. 10079");
        }
    }

    private void checkSeatingMade() {
        if (!seatingMade) {
            throw new IllegalStateException("no seating is made");
        }
    }

    private void checkNobodyElseHas(int person, int desk) {
        for (int p = 0; p < personCount; p++) {
            if (p != person && persons[p].oldDesk == desk) {
                throw new IllegalStateException("it is the old desk of another person");
            }
        }
    }

    private Booking bookingNumbered(int number) {
        Booking booking = number < 0 || number >= MAX_BOOKINGS ? null : bookings[number];
        if (booking == null) {
            throw new IllegalArgumentException("there never was such a booking");
        }
        return booking;
    }

    private Room bestRoom(int from, int to, int heads) {
        Room best = null;
        for (int r = 0; r < roomCount; r++) {
            Room other = rooms[r];
            boolean fits = other.places >= heads && other.bookingWithin(from, to) == null;
            if (fits && (best == null || other.places < best.places)) {
                best = other;
            }
        }
        return best;
    }

    private static final class Person {
        final int number;
        final int[] wishes = new int[MAX_DESKS];
        final boolean[] barred = new boolean[MAX_DESKS];
        int oldDesk = NONE;
        int newDesk = NONE;
        // Where the person is while the walk is planned.
        int place = NONE;
        // The person's part of the prices in the matcher's search.
        long price;

        Person(int number) {
            this.number = number;
        }

        boolean wouldMoveTo(int goal) {
            return oldDesk != NONE && oldDesk != goal;
        }

        long costAt(int goal) {
            long cost = (MAX_WISH - wishes[goal]) * MISSED_WISH_COST;
            if (wouldMoveTo(goal)) {
                cost += MOVE_COST;
            }
            // Person 0's desk weighs most, so its digit stands highest.
            return cost + ((long) goal << (DESK_BITS * (MAX_PERSONS - 1 - number)));
        }
    }

    /** A desk as the matcher sees it. */
    private static final class Spot {
        Person sitter;
        long price;
        long distance;
        Spot before;
        boolean reached;

        Spot() {
        }
    }

    /**
     * Finds the cheapest seating: it seats one person after the other and each time moves those who
     * are seated along the cheapest chain (the Hungarian method). Spots that are barred are no
     * edges of the search, so a person for whom no chain ends at a free spot has no seating.
     */
    private static final class Matcher {
        private final Spot[] spots = new Spot[MAX_DESKS];
        private int spotCount;

        Matcher() {
            for (int d = 0; d < MAX_DESKS; d++) {
                spots[d] = new Spot();
            }
        }

        /** The worth of the best seating of all but one person (or of all: NONE); NONE if there is none. */
        int match(Person[] persons, int personCount, int without, int deskCount) {
            clearSpots(deskCount);
            for (int p = 0; p < personCount && p < persons.length; p++) {
                if (p != without && !addPerson(persons[p])) {
                    return NONE;
                }
            }
            return worthOfSpots();
        }

        void tellPersons() {
            for (int d = 0; d < spotCount; d++) {
                Person sitter = spots[d].sitter;
                if (sitter != null) {
                    sitter.newDesk = d;
                }
            }
        }

        private void clearSpots(int deskCount) {
            spotCount = Math.min(deskCount, MAX_DESKS);
            for (int d = 0; d < spotCount; d++) {
                spots[d].sitter = null;
                spots[d].price = 0;
            }
        }

        private int worthOfSpots() {
            int worth = 0;
            for (int d = 0; d < spotCount; d++) {
                Person sitter = spots[d].sitter;
                if (sitter != null) {
                    worth += sitter.wishes[d];
                }
            }
            return worth;
        }

        private boolean addPerson(Person newcomer) {
            startSearch();
            newcomer.price = 0;
            Person person = newcomer;
            Spot spot = null;
            for (int round = 0; round < spotCount; round++) {
                lookFrom(person, spot);
                Spot nearest = nearestSpot();
                if (nearest == null) {
                    return false;
                }
                shiftPrices(newcomer, nearest.distance);
                nearest.reached = true;
                if (nearest.sitter == null) {
                    handOn(nearest, newcomer);
                    return true;
                }
                person = nearest.sitter;
                spot = nearest;
            }
            return false;
        }

        private void startSearch() {
            for (int d = 0; d < spotCount; d++) {
                spots[d].distance = FAR;
                spots[d].before = null;
                spots[d].reached = false;
            }
        }

        private void lookFrom(Person person, Spot from) {
            for (int d = 0; d < spotCount; d++) {
                Spot spot = spots[d];
                if (spot.reached || person.barred[d]) {
                    continue;
                }
                long distance = person.costAt(d) - person.price - spot.price;
                if (distance < spot.distance) {
                    spot.distance = distance;
                    spot.before = from;
                }
            }
        }

        private Spot nearestSpot() {
            Spot nearest = null;
            long least = FAR;
            for (int d = 0; d < spotCount; d++) {
                if (!spots[d].reached && spots[d].distance < least) {
                    nearest = spots[d];
                    least = nearest.distance;
                }
            }
            return nearest;
        }

        /** Keeps every edge's cost, less the prices of its ends, at 0 or above: so chains stay cheapest. */
        private void shiftPrices(Person newcomer, long by) {
            newcomer.price += by;
            for (int d = 0; d < spotCount; d++) {
                Spot spot = spots[d];
                if (spot.reached) {
                    spot.price -= by;
                    if (spot.sitter != null) {
                        spot.sitter.price += by;
                    }
                } else if (spot.distance < FAR) {
                    spot.distance -= by;
                }
            }
        }

        private void handOn(Spot last, Person newcomer) {
            for (Spot spot = last; spot != null; spot = spot.before) {
                spot.sitter = spot.before == null ? newcomer : spot.before.sitter;
            }
        }
    }

    /** The steps in which all go from their old desks to those of the seating. */
    private static final class Walk {
        final int[] goers = new int[MAX_STEPS];
        final int[] starts = new int[MAX_STEPS];
        final int[] goals = new int[MAX_STEPS];
        int count;
        boolean stuck;
        // A bit for each desk in which someone sits.
        private int taken;

        Walk() {
        }

        void plan(Person[] persons, int personCount, int deskCount) {
            sitAtOldDesks(persons, personCount);
            for (int k = 0; k < MAX_STEPS; k++) {
                Person goer = firstWhoCanGoHome(persons, personCount);
                if (goer != null) {
                    go(goer, goer.newDesk);
                    continue;
                }
                goer = firstNotHome(persons, personCount);
                if (goer == null) {
                    return;
                }
                int aside = firstFreeDesk(deskCount);
                if (aside == NONE) {
                    stuck = true;
                    return;
                }
                go(goer, aside);
            }
        }

        private void sitAtOldDesks(Person[] persons, int personCount) {
            count = 0;
            stuck = false;
            taken = 0;
            for (int p = 0; p < personCount && p < persons.length; p++) {
                persons[p].place = persons[p].oldDesk;
                if (persons[p].place != NONE) {
                    taken |= 1 << persons[p].place;
                }
            }
        }

        private Person firstWhoCanGoHome(Person[] persons, int personCount) {
            for (int p = 0; p < personCount && p < persons.length; p++) {
                Person person = persons[p];
                if (person.place != person.newDesk && isFree(person.newDesk)) {
                    return person;
                }
            }
            return null;
        }

        private Person firstNotHome(Person[] persons, int personCount) {
            for (int p = 0; p < personCount && p < persons.length; p++) {
                if (persons[p].place != persons[p].newDesk) {
                    return persons[p];
                }
            }
            return null;
        }

        private int firstFreeDesk(int deskCount) {
            for (int d = 0; d < deskCount; d++) {
                if (isFree(d)) {
                    return d;
                }
            }
            return NONE;
        }

        private boolean isFree(int desk) {
            return (taken & (1 << desk)) == 0;
        }

        private void go(Person goer, int goal) {
            if (count >= MAX_STEPS) {
                return;
            }
            goers[count] = goer.number;
            starts[count] = goer.place;
            goals[count] = goal;
            count++;
            if (goer.place != NONE) {
                taken &= ~(1 << goer.place);
            }
            taken |= 1 << goal;
            goer.place = goal;
        }
    }

    /** A room with a chain of the bookings that are there, sorted by their minutes. */
    private static final class Room {
        final int number;
        int places;
        private Booking first;

        Room(int number) {
            this.number = number;
        }

        /** A booking that has one of the minutes from one to another; null if there is none. */
        Booking bookingWithin(int from, int to) {
            for (Booking booking = first; booking != null; booking = booking.next) {
                if (booking.from < to && booking.to > from) {
                    return booking;
                }
            }
            return null;
        }

        /** The first minute from which so many are free; the last booking's end may be too late for them. */
        int firstFree(int from, int minutes) {
            int start = from;
            for (Booking booking = first; booking != null; booking = booking.next) {
                if (booking.from < start + minutes && booking.to > start) {
                    start = booking.to;
                }
            }
            return start;
        }

        int placesLeftOver() {
            int sum = 0;
            for (Booking booking = first; booking != null; booking = booking.next) {
                sum += places - booking.heads;
            }
            return sum;
        }

        void add(Booking added) {
            Booking before = null;
            for (Booking booking = first; booking != null && booking.from < added.from; booking = booking.next) {
                before = booking;
            }
            if (before == null) {
                added.next = first;
                first = added;
            } else {
                added.next = before.next;
                before.next = added;
            }
        }

        /** Takes a booking out of the chain: whether it was in it. */
        boolean remove(Booking gone) {
            if (first == gone) {
                first = gone.next;
                return true;
            }
            for (Booking booking = first; booking != null; booking = booking.next) {
                if (booking.next == gone) {
                    booking.next = gone.next;
                    return true;
                }
            }
            return false;
        }
    }

    private static final class Booking {
        final int number;
        final Room bookedRoom;
        final int from;
        final int to;
        final int heads;
        // The one behind it in the room's chain.
        Booking next;

        Booking(int number, Room bookedRoom, int from, int to, int heads) {
            this.number = number;
            this.bookedRoom = bookedRoom;
            this.from = from;
            this.to = to;
            this.heads = heads;
        }
    }
}
