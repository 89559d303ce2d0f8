/** What the tests of the document's boundary sentences share: the answers by name, numbers that are far, roads. */
abstract class Edges {
    static final int NONE = -1000000, BAD = -1000001, STATE = -1000002, FULL = -1000003;
    static final int NULL = -1000011, PLACE = -1000012, KIND = -1000013, SIZE = -1000014, STORE = -1000015;
    static final int LEAST = Integer.MIN_VALUE, MOST = Integer.MAX_VALUE;
    static final String SIX = "stone 0 0;stone 1 1;stone 2 2;stone 3 3;stone 4 4;stone 5 5;";

    Edges() {
    }

    /** Numbers outside least to most: those next to it first, then such as wrap around when reckoned with. */
    static int[] outside(int least, int most) {
        return new int[] {least - 1, most + 1, least - 40, most + 256, most + 65536, LEAST, LEAST + 1, MOST - 1, MOST};
    }

    static NightStones on(String road) {
        return Tape.with(road);
    }

    /** A road with that said and movers, each stone saying 0. */
    static NightStones on(int length, int[] at, String movers) {
        StringBuilder text = new StringBuilder("law " + length + " 1 1 1;");
        for (int yard : at) {
            text.append("stone 0 ").append(yard).append(';');
        }
        return Tape.with(text + movers);
    }

    static int[] at(int... yards) {
        return yards;
    }

    static void nights(NightStones x, int n) {
        for (int k = 0; k < n; k++) {
            x.night();
        }
    }

    static void put(NightStones x, int row, int i, int... items) {
        for (int k = 0; k < items.length; k++) {
            x.set(row, i + k, items[k]);
        }
    }

    static void stand(Due due, String what, NightStones x, int... at) {
        for (int stone = 0; stone < at.length; stone++) {
            due.is(what + ", stone " + stone, x.stone(stone, 1), at[stone]);
        }
    }
}
