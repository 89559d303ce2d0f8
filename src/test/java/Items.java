/**
 * ITEMS are told by no call: one is read as the HOURS of a TIME at PACE 1, which is the least of its ENDS.
 * Reading spends the TIMES and what stands at 0 to 3 of a ROW of the same LANE.
 */
final class Items {
    private Items() {
    }

    /** The road by which ITEMS are read; it stands in place of the one before. */
    static void layRoad(NightStones x) {
        Tape.road(x, "law 200 0 0 0;stone 0 0;stone 0 9;");
    }

    /** Readies a ROW, that is made anew, for reading others of its LANE. */
    static void layRow(NightStones x, int spent, int lane) {
        x.row(spent, lane, 4);
        x.set(spent, 1, 1);
        x.set(spent, 2, 1);
    }

    /** The ITEM, if it is 0 to 99; -1: it is another; what copy() finds, if it finds. */
    static int read(NightStones x, int row, int i, int spent) {
        int copied = x.copy(row, i, spent, 3, 1);
        if (copied != 1) {
            return copied;
        }
        x.forget();
        // No HOURS at PACE 1 leave no whole yard, so that these ENDS are NONE.
        return x.times(spent, 0, 1) == 1 ? Math.max(0, x.ends(0, 1, 0)) : -1;
    }
}
