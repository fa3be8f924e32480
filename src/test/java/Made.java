/** Objects that tests begin with. */
final class Made {
    private Made() {
    }

    static DeskMoves office(int desks, int persons) {
        DeskMoves x = new DeskMoves();
        for (int d = 0; d < desks; d++) {
            x.desk();
        }
        for (int p = 0; p < persons; p++) {
            x.person();
        }
        return x;
    }

    static DeskMoves house(int... places) {
        DeskMoves x = new DeskMoves();
        for (int p : places) {
            x.room(p);
        }
        return x;
    }

    /** Old desks as told, and a wish of each person for the desk to which it shall go. */
    static DeskMoves moving(int desks, int[] old, int[] wished) {
        DeskMoves x = office(desks, old.length);
        for (int p = 0; p < old.length; p++) {
            x.sits(p, old[p]);
            x.wish(p, wished[p], 9);
        }
        x.seat();
        return x;
    }

    /** A person who may have these desks alone. */
    static void mayHave(DeskMoves x, int desks, int person, int... allowed) {
        for (int d = 0; d < desks; d++) {
            x.bar(person, d, true);
        }
        for (int d : allowed) {
            x.bar(person, d, false);
        }
    }
}
