import java.util.Arrays;

/** Milestones moved by night: what each call does and answers is told in the document, as promises 1 to 31. */
public final class NightStones {
    public static final int NONE = -1000000, BAD = -1000001, STATE = -1000002, FULL = -1000003;

    private static final int FINDING = -1000010;
    private static final int MISSING = 1, PLACE = 2, NOT_THE_KIND = 3, SIZE = 4, STORE = 5;
    private static final int FAULT_AT_0 = -1000100;

    private static final int MOST_NIGHTS = 9999, MOST_REST = 60, MOST_WHO = 9, MOST_DARE = 3;
    private static final int MOST_TIMES_AT_ONCE = 10, ITEMS_OF_A_TIME = 4;

    private static final int INN = 1, CARTER = 2, PARISH = 3, THIEF = 4, PRIEST = 5;
    private static final int INWARD = 0, OUTWARD = 1;

    private final Rows rows = new Rows();
    private final Reader reader = new Reader();
    private final Road now = new Road();
    private final Road[] images = {new Road(), new Road()};
    private final Acts acts = new Acts();
    private final Lengths lengths = new Lengths();
    private final Foreteller foreteller = new Foreteller();
    private final Asker asker = new Asker();
    private int latestFault;
    private int latestFinding;

    public NightStones() {
    }

    // ---- rows

    public int row(int row, int lane, int n) {
        if (!Rows.isRow(row) || !isAmong(lane, 0, Rows.INTS) || n > Rows.MOST_ITEMS) {
            return BAD;
        }
        if (n < 0) {
            return found(SIZE);
        }
        rows.make(row, lane, n);
        return well(n);
    }

    public int set(int row, int i, int v) {
        if (!Rows.isRow(row)) {
            return BAD;
        }
        int finding = rows.findingAt(row, i, 1);
        if (finding != 0) {
            return found(finding);
        }
        return well(rows.put(row, i, v));
    }

    public int copy(int a, int i, int b, int j, int n) {
        if (!Rows.isRow(a) || !Rows.isRow(b)) {
            return BAD;
        }
        int finding = rows.findingBetween(a, i, b, j, n);
        if (finding != 0) {
            return found(finding);
        }
        rows.carryOver(a, i, b, j, n);
        return well(n);
    }

    public int drop(int row) {
        if (!Rows.isRow(row)) {
            return BAD;
        }
        if (rows.isMissing(row)) {
            return found(MISSING);
        }
        return well(rows.remove(row));
    }

    // ---- roads, nights

    public int feed(long w, int n) {
        if (!isAmong(n, 1, 8)) {
            return BAD;
        }
        if (!reader.hasRoomFor(n)) {
            return FULL;
        }
        return reader.append(w, n);
    }

    public int road() {
        int fault = reader.read();
        if (fault != 0) {
            latestFault = fault;
            return FAULT_AT_0 - reader.place();
        }
        now.become(reader.roadRead());
        acts.clear();
        return now.stones;
    }

    public int fault() {
        return latestFault;
    }

    public int night() {
        if (!now.isThere) {
            return STATE;
        }
        if (now.nights >= MOST_NIGHTS) {
            return FULL;
        }
        acts.keep(now);
        now.pass(now.at, now.nights, Road.ALL_MOVERS);
        now.nights++;
        return acts.displacedByLatest(now);
    }

    public int prove(int stone) {
        if (!now.isStone(stone)) {
            return BAD;
        }
        int far = Math.abs(now.at[stone] - now.home[stone]);
        if (far == 0 || !now.isWayHomeFree(stone)) {
            return STATE;
        }
        acts.keep(now);
        now.at[stone] = now.home[stone];
        return far;
    }

    public int undo() {
        if (acts.kept == 0) {
            return STATE;
        }
        acts.takeBack(now);
        return acts.kept;
    }

    public int stone(int stone, int what) {
        if (!now.isStone(stone)) {
            return BAD;
        }
        switch (what) {
            case 0:
                return now.says[stone];
            case 1:
                return now.at[stone];
            case 2:
                return now.home[stone];
            default:
                return BAD;
        }
    }

    public int carry(int a, int b, int what) {
        if (!now.isStone(a) || !now.isStone(b) || !isAmong(what, 0, 1)) {
            return BAD;
        }
        if (what == 0) {
            return now.fee * Math.abs(now.says[a] - now.says[b]);
        }
        return Math.abs(now.at[a] - now.at[b]);
    }

    // ---- times

    public int time(int a, int b, int v, int t) {
        if (!now.isTime(a, b, v, t)) {
            return BAD;
        }
        if (!now.hasRoomForTimes(1)) {
            return FULL;
        }
        return now.hear(a, b, v, t);
    }

    public int times(int row, int i, int n) {
        if (!now.isThere) {
            return STATE;
        }
        if (!Rows.isRow(row) || !isAmong(n, 1, MOST_TIMES_AT_ONCE)) {
            return BAD;
        }
        int finding = rows.findingAt(row, i, ITEMS_OF_A_TIME * n);
        if (finding != 0) {
            return found(finding);
        }
        int end = i + ITEMS_OF_A_TIME * n;
        for (int k = i; k < end; k += ITEMS_OF_A_TIME) {
            if (!now.isTime(rows.item(row, k), rows.item(row, k + 1), rows.item(row, k + 2), rows.item(row, k + 3))) {
                return BAD;
            }
        }
        if (!now.hasRoomForTimes(n)) {
            return FULL;
        }
        for (int k = i; k < end; k += ITEMS_OF_A_TIME) {
            now.hear(rows.item(row, k), rows.item(row, k + 1), rows.item(row, k + 2), rows.item(row, k + 3));
        }
        return well(now.heard);
    }

    public int forget() {
        int forgotten = now.heard;
        now.heard = 0;
        return forgotten;
    }

    public int ends(int a, int b, int what) {
        if (!now.isPair(a, b) || !isAmong(what, 0, 1)) {
            return BAD;
        }
        if (!lengths.fit(now)) {
            return NONE;
        }
        return what == 0 ? lengths.least(a, b) : lengths.most(a, b);
    }

    public int widest() {
        if (!now.isThere) {
            return STATE;
        }
        if (!lengths.fit(now)) {
            return NONE;
        }
        return lengths.widestPair(now.stones);
    }

    // ---- foretold

    public int rest() {
        if (!now.isThere) {
            return STATE;
        }
        return foreteller.nightsToRest(now);
    }

    public int moved(int what) {
        if (!now.isThere) {
            return STATE;
        }
        if (!isAmong(what, 0, 1)) {
            return BAD;
        }
        int set = Foreteller.leastSetMoved(now);
        return what == 0 ? Integer.bitCount(set) : set;
    }

    public int who(int n, int what) {
        if (!now.isThere) {
            return STATE;
        }
        if (!isAmong(n, 0, MOST_WHO) || !isAmong(what, 0, 1)) {
            return BAD;
        }
        return what == 0 ? foreteller.setsThatFit(now, n) : foreteller.leastSetThatFits(now, n);
    }

    public int dare(int d, int what) {
        if (!now.isThere) {
            return STATE;
        }
        if (!isAmong(d, 0, MOST_DARE) || !isAmong(what, 0, 1)) {
            return BAD;
        }
        int mean = Foreteller.meanInMillionths(now, now.fee, d);
        int shared = Foreteller.sharedDivisor(Math.abs(mean), Foreteller.MILLION);
        if (shared <= 0) {
            return NONE;
        }
        return (what == 0 ? mean : Foreteller.MILLION) / shared;
    }

    public int best(int what) {
        if (!now.isThere) {
            return STATE;
        }
        if (!isAmong(what, 0, 1)) {
            return BAD;
        }
        return what == 0 ? Foreteller.bestDare(now, now.fee) : Foreteller.fairFee(now);
    }

    public int image(int k) {
        if (!isAmong(k, 0, images.length - 1)) {
            return BAD;
        }
        if (!now.isThere) {
            return STATE;
        }
        images[k].become(now);
        return 1;
    }

    public int restore(int k) {
        if (!isAmong(k, 0, images.length - 1)) {
            return BAD;
        }
        if (!images[k].isThere) {
            return STATE;
        }
        now.become(images[k]);
        acts.clear();
        return 1;
    }

    // ---- asked

    public int kind(int mover) {
        return now.isMover(mover) ? now.kinds[mover] : BAD;
    }

    public int as(int mover, int kind) {
        if (!now.isMover(mover) || !isAmong(kind, 0, PRIEST)) {
            return BAD;
        }
        return Asker.isOne(now.kinds[mover], kind) ? well(mover) : found(NOT_THE_KIND);
    }

    public int ask(int mover, int what) {
        if (!now.isMover(mover) || !isAmong(what, 0, 1)) {
            return BAD;
        }
        asker.clear();
        return what == 0 ? asker.sizeOf(now, mover) : asker.markOf(now, mover);
    }

    public int trace(int i) {
        return asker.begun(i);
    }

    public int count(int what) {
        switch (what) {
            case 0:
                return rows.present();
            case 1:
                return now.stones;
            case 2:
                return now.movers;
            case 3:
                return now.nights;
            case 4:
                return acts.kept;
            case 5:
                return now.heard;
            case 6:
                return reader.bytes;
            default:
                return BAD;
        }
    }

    public int status() {
        return latestFinding;
    }

    private static boolean isAmong(int number, int least, int most) {
        return number >= least && number <= most;
    }

    // The finding is kept beside the answer, not read off it: an ITEM of ints may look like a refusal.
    private int found(int finding) {
        latestFinding = finding;
        return FINDING - finding;
    }

    private int well(int answer) {
        latestFinding = 0;
        return answer;
    }

    /** The ROWS; those who ask for a place or an item have looked at the number of the ROW by isRow. */
    private static final class Rows {
        private static final int ROWS = 8, MOST_ITEMS = 40;
        private static final int BYTES = 0, SHORTS = 1, INTS = 2, NO_LANE = -1;

        private final int[][] items = new int[ROWS][MOST_ITEMS];
        private final int[] lanes = new int[ROWS];
        private final int[] sizes = new int[ROWS];

        private Rows() {
            Arrays.fill(lanes, NO_LANE);
        }

        private static boolean isRow(int row) {
            return row >= 0 && row < ROWS;
        }

        private boolean isMissing(int row) {
            return lanes[row] == NO_LANE;
        }

        private void make(int row, int lane, int n) {
            lanes[row] = lane;
            sizes[row] = n;
            Arrays.fill(items[row], 0);
        }

        private int remove(int row) {
            lanes[row] = NO_LANE;
            return sizes[row];
        }

        private int present() {
            int present = 0;
            for (int row = 0; row < ROWS; row++) {
                if (!isMissing(row)) {
                    present++;
                }
            }
            return present;
        }

        private int findingAt(int row, int i, int n) {
            if (isMissing(row)) {
                return MISSING;
            }
            return holds(row, i, n) ? 0 : PLACE;
        }

        private int findingBetween(int a, int i, int b, int j, int n) {
            if (isMissing(a) || isMissing(b)) {
                return MISSING;
            }
            if (lanes[a] != lanes[b]) {
                return STORE;
            }
            return holds(a, i, n) && holds(b, j, n) ? 0 : PLACE;
        }

        // The end is reckoned from the size back, since i + n may wrap around.
        private boolean holds(int row, int i, int n) {
            return i >= 0 && n >= 0 && n <= sizes[row] && i <= sizes[row] - n;
        }

        private int item(int row, int i) {
            return items[row][i];
        }

        private int put(int row, int i, int v) {
            int kept = v;
            if (lanes[row] == BYTES) {
                kept = (byte) v;
            } else if (lanes[row] == SHORTS) {
                kept = (short) v;
            }
            items[row][i] = kept;
            return kept;
        }

        private void carryOver(int a, int i, int b, int j, int n) {
            System.arraycopy(items[a], i, items[b], j, n);
        }
    }

    /** A ROAD with its TIMES; STONES always stand in the order of their numbers, since none ever passes another. */
    private static final class Road {
        private static final int MOST_STONES = 6, MOST_MOVERS = 5, MOST_TIMES = 12;
        private static final int MOST_PACE = 20, MOST_HOURS = 99;
        private static final int ALL_MOVERS = 31;

        private boolean isThere;
        private int length, fee, seen, fine;
        private int nights, stones, movers, heard;
        private final int[] says = new int[MOST_STONES];
        private final int[] at = new int[MOST_STONES];
        private final int[] home = new int[MOST_STONES];
        private final int[] kinds = new int[MOST_MOVERS];
        private final int[] pushed = new int[MOST_MOVERS];
        private final int[] ways = new int[MOST_MOVERS];
        private final int[] reach = new int[MOST_MOVERS];
        private final int[] heardOf = new int[MOST_TIMES * ITEMS_OF_A_TIME];

        private Road() {
        }

        private void become(Road other) {
            isThere = other.isThere;
            length = other.length;
            fee = other.fee;
            seen = other.seen;
            fine = other.fine;
            nights = other.nights;
            stones = other.stones;
            movers = other.movers;
            heard = other.heard;
            System.arraycopy(other.says, 0, says, 0, MOST_STONES);
            System.arraycopy(other.at, 0, at, 0, MOST_STONES);
            System.arraycopy(other.home, 0, home, 0, MOST_STONES);
            System.arraycopy(other.kinds, 0, kinds, 0, MOST_MOVERS);
            System.arraycopy(other.pushed, 0, pushed, 0, MOST_MOVERS);
            System.arraycopy(other.ways, 0, ways, 0, MOST_MOVERS);
            System.arraycopy(other.reach, 0, reach, 0, MOST_MOVERS);
            System.arraycopy(other.heardOf, 0, heardOf, 0, heardOf.length);
        }

        private boolean isStone(int stone) {
            return stone >= 0 && stone < stones;
        }

        private boolean isMover(int mover) {
            return mover >= 0 && mover < movers;
        }

        private boolean isPair(int a, int b) {
            return isStone(a) && isStone(b) && a < b;
        }

        private boolean isTime(int a, int b, int v, int t) {
            return isPair(a, b) && isAmong(v, 1, MOST_PACE) && isAmong(t, 0, MOST_HOURS);
        }

        private boolean hasRoomForTimes(int n) {
            return heard + n <= MOST_TIMES;
        }

        private int hear(int a, int b, int v, int t) {
            int from = heard * ITEMS_OF_A_TIME;
            heardOf[from] = a;
            heardOf[from + 1] = b;
            heardOf[from + 2] = v;
            heardOf[from + 3] = t;
            heard++;
            return heard;
        }

        private boolean isWayHomeFree(int stone) {
            int near = Math.min(at[stone], home[stone]);
            int far = Math.max(at[stone], home[stone]);
            for (int other = 0; other < stones; other++) {
                if (other != stone && at[other] >= near && at[other] <= far) {
                    return false;
                }
            }
            return true;
        }

        /** The night, of those movers alone, over the places given: these are the ROAD's own or only thought of. */
        private void pass(int[] places, int night, int allowed) {
            for (int mover = 0; mover < movers; mover++) {
                if ((allowed >> mover & 1) != 0 && isOut(mover, places, night)) {
                    push(mover, places, night);
                }
            }
        }

        private boolean isOut(int mover, int[] places, int night) {
            if (kinds[mover] == PARISH) {
                return (night & 1) == 0;
            }
            if (kinds[mover] == PRIEST) {
                return places[pushed[mover]] == home[pushed[mover]];
            }
            return true;
        }

        // Only the neighbour can be in the way, as the STONES stand in order.
        private void push(int mover, int[] places, int night) {
            int stone = pushed[mover];
            int yards = kinds[mover] == CARTER ? 2 * reach[mover] : reach[mover];
            if (wayIn(mover, night) == OUTWARD) {
                int last = stone + 1 < stones ? places[stone + 1] - 1 : length;
                places[stone] = Math.min(places[stone] + yards, last);
            } else {
                int last = stone > 0 ? places[stone - 1] + 1 : 0;
                places[stone] = Math.max(places[stone] - yards, last);
            }
        }

        private int wayIn(int mover, int night) {
            boolean turns = kinds[mover] == THIEF && (night & 1) != 0;
            return turns ? INWARD + OUTWARD - ways[mover] : ways[mover];
        }

        private boolean standAlike(int[] places, int[] others) {
            for (int stone = 0; stone < stones; stone++) {
                if (places[stone] != others[stone]) {
                    return false;
                }
            }
            return true;
        }
    }

    /** The tape, and the reading of it: once a fault is found, all further reading does nothing. */
    private static final class Reader {
        private static final int MOST_BYTES = 400, MOST_FIGURES = 3;
        private static final int END = 0, NAME = 1, NUMBER = 2, SIGN = 3, NO_TOKEN = 4;
        private static final int MISPLACED = 1, NOT_AS_TOLD = 2, NO_ROOM = 3;

        private final int[] tape = new int[MOST_BYTES];
        private final Road draft = new Road();
        private int bytes;
        private int from, to, token, value;
        private int fault;

        private Reader() {
        }

        private boolean hasRoomFor(int n) {
            return bytes + n <= MOST_BYTES;
        }

        private int append(long w, int n) {
            for (int k = n - 1; k >= 0; k--) {
                tape[bytes] = (int) (w >> 8 * k) & 255;
                bytes++;
            }
            return bytes;
        }

        private int read() {
            fault = 0;
            to = 0;
            next();
            readLaw();
            readStones();
            readMovers();
            if (token != END) {
                blame(MISPLACED);
            }
            draft.isThere = true;
            draft.nights = 0;
            draft.heard = 0;
            System.arraycopy(draft.at, 0, draft.home, 0, Road.MOST_STONES);
            bytes = 0;
            return fault;
        }

        private int place() {
            return from;
        }

        private Road roadRead() {
            return draft;
        }

        private void readLaw() {
            readWord("law");
            draft.length = readNumber(10, 200);
            draft.fee = readNumber(0, 20);
            draft.seen = readNumber(0, 100);
            draft.fine = readNumber(0, 99);
            readEnd();
        }

        private void readStones() {
            draft.stones = 0;
            int nearest = 0;
            for (int stone = 0; stone <= Road.MOST_STONES && fault == 0 && isWord("stone"); stone++) {
                if (stone == Road.MOST_STONES) {
                    blame(NO_ROOM);
                    return;
                }
                readWord("stone");
                draft.says[stone] = readNumber(0, 200);
                draft.at[stone] = readNumber(nearest, draft.length);
                readEnd();
                nearest = draft.at[stone] + 1;
                draft.stones = stone + 1;
            }
        }

        private void readMovers() {
            draft.movers = 0;
            for (int mover = 0; mover <= Road.MOST_MOVERS && fault == 0 && isWord("mover"); mover++) {
                if (mover == Road.MOST_MOVERS) {
                    blame(NO_ROOM);
                    return;
                }
                readWord("mover");
                draft.kinds[mover] = readSort();
                draft.pushed[mover] = readNumber(0, draft.stones - 1);
                draft.ways[mover] = readNumber(INWARD, OUTWARD);
                draft.reach[mover] = readNumber(1, 5);
                readEnd();
                draft.movers = mover + 1;
            }
        }

        private int readSort() {
            int sort = sortNamed();
            if (sort == 0) {
                blame(MISPLACED);
            } else {
                next();
            }
            return sort;
        }

        private int sortNamed() {
            if (isWord("inn")) {
                return INN;
            }
            if (isWord("carter")) {
                return CARTER;
            }
            if (isWord("parish")) {
                return PARISH;
            }
            if (isWord("thief")) {
                return THIEF;
            }
            return isWord("priest") ? PRIEST : 0;
        }

        private void readWord(String word) {
            if (isWord(word)) {
                next();
            } else {
                blame(MISPLACED);
            }
        }

        private void readEnd() {
            if (token == SIGN) {
                next();
            } else {
                blame(MISPLACED);
            }
        }

        private int readNumber(int least, int most) {
            int number = value;
            if (token != NUMBER) {
                blame(MISPLACED);
            } else if (number < least || number > most) {
                blame(NOT_AS_TOLD);
            } else {
                next();
            }
            return fault == 0 ? number : 0;
        }

        private void blame(int number) {
            if (fault == 0) {
                fault = number;
            }
        }

        private boolean isWord(String word) {
            if (token != NAME || to - from != word.length()) {
                return false;
            }
            for (int k = 0; k < word.length() && from + k < bytes; k++) {
                if (tape[from + k] != word.charAt(k)) {
                    return false;
                }
            }
            return true;
        }

        private void next() {
            if (fault != 0) {
                return;
            }
            from = to;
            while (from < bytes && (tape[from] == 32 || tape[from] == 10)) {
                from++;
            }
            to = from;
            value = 0;
            if (from >= bytes) {
                token = END;
            } else if (isLetter(from)) {
                takeName();
            } else if (isFigure(from)) {
                takeNumber();
            } else {
                token = tape[from] == ';' ? SIGN : NO_TOKEN;
                to = from + 1;
            }
        }

        private void takeName() {
            while (to < bytes && isLetter(to)) {
                to++;
            }
            token = NAME;
        }

        private void takeNumber() {
            while (to < bytes && isFigure(to)) {
                // Beyond the figures of a NUMBER the run is no TOKEN, and its value is asked by none.
                if (to - from < MOST_FIGURES) {
                    value = 10 * value + tape[to] - '0';
                }
                to++;
            }
            token = to - from <= MOST_FIGURES ? NUMBER : NO_TOKEN;
        }

        private boolean isLetter(int i) {
            return tape[i] >= 'a' && tape[i] <= 'z';
        }

        private boolean isFigure(int i) {
            return tape[i] >= '0' && tape[i] <= '9';
        }
    }

    /** The ACTS that can be undone: of each the places and the NIGHT ahead of it, as an ACT changes nothing else. */
    private static final class Acts {
        private static final int MOST_ACTS = 24;

        private final int[] places = new int[MOST_ACTS * Road.MOST_STONES];
        private final int[] nights = new int[MOST_ACTS];
        private int kept;

        private Acts() {
        }

        private void clear() {
            kept = 0;
        }

        private void keep(Road road) {
            if (kept >= MOST_ACTS) {
                System.arraycopy(places, Road.MOST_STONES, places, 0, (MOST_ACTS - 1) * Road.MOST_STONES);
                System.arraycopy(nights, 1, nights, 0, MOST_ACTS - 1);
                kept = MOST_ACTS - 1;
            }
            System.arraycopy(road.at, 0, places, kept * Road.MOST_STONES, Road.MOST_STONES);
            nights[kept] = road.nights;
            kept++;
        }

        private int displacedByLatest(Road road) {
            int set = 0;
            int from = (kept - 1) * Road.MOST_STONES;
            for (int stone = 0; stone < road.stones && from >= 0; stone++) {
                if (road.at[stone] != places[from + stone]) {
                    set |= 1 << stone;
                }
            }
            return set;
        }

        private void takeBack(Road road) {
            kept--;
            System.arraycopy(places, kept * Road.MOST_STONES, road.at, 0, Road.MOST_STONES);
            road.nights = nights[kept];
        }
    }

    /** What STONES can have stood apart: the shortest chains of bounds that all TIMES and the ROAD set together. */
    private static final class Lengths {
        private static final int SIDE = Road.MOST_STONES;

        // At a * SIDE + b: the most by which STONE b stands beyond a (below 0: the least by which it is short of a).
        private final int[] bounds = new int[SIDE * SIDE];

        private Lengths() {
        }

        private boolean fit(Road road) {
            bindByRoad(road);
            bindByTimes(road);
            shorten(road.stones);
            for (int a = 0; a < road.stones; a++) {
                if (bounds[a * SIDE + a] < 0) {
                    return false;
                }
            }
            return true;
        }

        // Only differences are bound, so to stand at 0 to LENGTH is to stand at most LENGTH apart.
        private void bindByRoad(Road road) {
            for (int a = 0; a < road.stones; a++) {
                for (int b = 0; b < road.stones; b++) {
                    bounds[a * SIDE + b] = a < b ? road.length : b - a;
                }
            }
        }

        private void bindByTimes(Road road) {
            for (int k = 0; k < road.heard; k++) {
                int from = k * ITEMS_OF_A_TIME;
                int a = road.heardOf[from];
                int b = road.heardOf[from + 1];
                int v = road.heardOf[from + 2];
                int t = road.heardOf[from + 3];
                bind(a, b, v * (t + 1) - 1);
                bind(b, a, -v * t);
            }
        }

        private void bind(int a, int b, int most) {
            bounds[a * SIDE + b] = Math.min(bounds[a * SIDE + b], most);
        }

        private void shorten(int stones) {
            for (int by = 0; by < stones; by++) {
                for (int a = 0; a < stones; a++) {
                    for (int b = 0; b < stones; b++) {
                        bind(a, b, bounds[a * SIDE + by] + bounds[by * SIDE + b]);
                    }
                }
            }
        }

        private int least(int a, int b) {
            return -bounds[b * SIDE + a];
        }

        private int most(int a, int b) {
            return bounds[a * SIDE + b];
        }

        private int widestPair(int stones) {
            int pair = NONE;
            int width = -1;
            for (int a = 0; a < stones; a++) {
                for (int b = a + 1; b < stones; b++) {
                    if (most(a, b) - least(a, b) > width) {
                        width = most(a, b) - least(a, b);
                        pair = 6 * a + b;
                    }
                }
            }
            return pair;
        }
    }

    /** What is foretold, on places of its own: the ROAD is only looked at. */
    private static final class Foreteller {
        private static final int MILLION = 1000000, MOST_FEE = 20;

        private final int[] places = new int[Road.MOST_STONES];
        private final int[] ahead = new int[Road.MOST_STONES];

        private Foreteller() {
        }

        private int nightsToRest(Road road) {
            int still = 0;
            System.arraycopy(road.at, 0, places, 0, Road.MOST_STONES);
            for (int gone = 0; gone < MOST_REST + 2; gone++) {
                System.arraycopy(places, 0, ahead, 0, Road.MOST_STONES);
                road.pass(places, road.nights + gone, Road.ALL_MOVERS);
                still = road.standAlike(places, ahead) ? still + 1 : 0;
                if (still == 2) {
                    return gone - 1;
                }
            }
            return NONE;
        }

        // Whoever is kept stands by as much beyond as the first kept one: it is enough to try each as that.
        private static int leastSetMoved(Road road) {
            int least = 0;
            int fewest = Road.MOST_STONES + 1;
            for (int stone = 0; stone < road.stones; stone++) {
                int set = setApartFrom(road, road.at[stone] - road.says[stone]);
                int many = Integer.bitCount(set);
                if (many < fewest || many == fewest && set < least) {
                    fewest = many;
                    least = set;
                }
            }
            return least;
        }

        private static int setApartFrom(Road road, int beyond) {
            int set = 0;
            for (int stone = 0; stone < road.stones; stone++) {
                if (road.at[stone] - road.says[stone] != beyond) {
                    set |= 1 << stone;
                }
            }
            return set;
        }

        private int setsThatFit(Road road, int n) {
            int fitting = 0;
            for (int set = 0; set < 1 << road.movers; set++) {
                if (fits(road, n, set)) {
                    fitting++;
                }
            }
            return fitting;
        }

        private int leastSetThatFits(Road road, int n) {
            for (int set = 0; set < 1 << road.movers; set++) {
                if (fits(road, n, set)) {
                    return set;
                }
            }
            return NONE;
        }

        private boolean fits(Road road, int n, int set) {
            System.arraycopy(road.home, 0, places, 0, Road.MOST_STONES);
            for (int night = 0; night < n; night++) {
                road.pass(places, night, set);
            }
            return road.standAlike(places, road.at);
        }

        // In millionths all is whole: each of three yards at most divides by 100.
        private static int meanInMillionths(Road road, int fee, int d) {
            int unseen = MILLION;
            for (int yard = 0; yard < d; yard++) {
                unseen = unseen / 100 * (100 - road.seen);
            }
            return unseen * fee * d - (MILLION - unseen) * road.fine;
        }

        private static int bestDare(Road road, int fee) {
            int best = 0;
            int most = 0;
            for (int d = 1; d <= MOST_DARE; d++) {
                int mean = meanInMillionths(road, fee, d);
                if (mean > most) {
                    most = mean;
                    best = d;
                }
            }
            return best;
        }

        // FEE 0 never brings anything, so that one is always left.
        private static int fairFee(Road road) {
            for (int fee = MOST_FEE; fee > 0; fee--) {
                if (bestDare(road, fee) == 0) {
                    return fee;
                }
            }
            return 0;
        }

        private static int sharedDivisor(int a, int b) {
            int greater = a;
            int lesser = b;
            for (int step = 0; step < 64 && lesser != 0; step++) {
                int left = greater % lesser;
                greater = lesser;
                lesser = left;
            }
            return greater;
        }
    }

    /** The ASKS by their BODIES; only INNS ask MARK within SIZE, only THIEVES SIZE within MARK, so none goes round. */
    private static final class Asker {
        private static final int MOST_TRACE = 16;
        // Of each KIND all that it is, as bits: an INN is a MOVER, a CARTER and a PARISH an INN, a PRIEST a THIEF.
        private static final int[] ARE = {1, 3, 7, 11, 17, 49};

        private final int[] begun = new int[MOST_TRACE];
        private int many;

        private Asker() {
        }

        private static boolean isOne(int kind, int asked) {
            return isAmong(kind, 0, ARE.length - 1) && isAmong(asked, 0, ARE.length - 1)
                && (ARE[kind] >> asked & 1) != 0;
        }

        private void clear() {
            many = 0;
        }

        private int begun(int i) {
            return isAmong(i, 0, many - 1) ? begun[i] : NONE;
        }

        private void begin(int body) {
            if (many < MOST_TRACE) {
                begun[many] = body;
                many++;
            }
        }

        private int sizeOf(Road road, int mover) {
            return isOne(road.kinds[mover], THIEF) ? sizeOfThief(road, mover) : sizeOfInn(road, mover);
        }

        private int markOf(Road road, int mover) {
            return isOne(road.kinds[mover], THIEF) ? markOfThief(road, mover) : markOfInn(road, mover);
        }

        private int sizeOfInn(Road road, int mover) {
            if (road.kinds[mover] == CARTER) {
                begin(12);
                return -reachAndMark(road, mover);
            }
            return reachAndMark(road, mover);
        }

        private int reachAndMark(Road road, int mover) {
            begin(11);
            begin(10);
            return road.reach[mover] + markOfInn(road, mover);
        }

        private int markOfInn(Road road, int mover) {
            if (road.kinds[mover] == CARTER) {
                begin(24);
                return 2 * numberAndPlace(road, mover);
            }
            if (road.kinds[mover] == PARISH) {
                begin(22);
                return numberAndPlace(road, mover) - 1000;
            }
            return numberAndPlace(road, mover);
        }

        private int numberAndPlace(Road road, int mover) {
            begin(21);
            begin(20);
            return mover + road.at[road.pushed[mover]];
        }

        private int sizeOfThief(Road road, int mover) {
            int times = 1;
            if (road.kinds[mover] == PRIEST) {
                begin(14);
                times = 2;
            }
            begin(13);
            begin(10);
            return times * (road.reach[mover] - 100);
        }

        private int markOfThief(Road road, int mover) {
            begin(23);
            begin(20);
            return mover - sizeOfThief(road, mover);
        }
    }
}
