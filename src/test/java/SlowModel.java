import java.math.BigInteger;
import java.util.ArrayDeque;
import java.util.ArrayList;
import java.util.Arrays;
import java.util.List;
import java.util.Map;
import java.util.regex.Matcher;
import java.util.regex.Pattern;

/**
 * The document once more, said otherwise: texts by patterns, pushes yard by yard, lengths and sets by trying all.
 * It knows only calls that are not BAD; it is for roads of some 14 yards (all ways to stand on these are tried).
 */
final class SlowModel {
    static final int NONE = -1000000, STATE = -1000002;
    private static final List<String> SORTS = List.of("", "inn", "carter", "parish", "thief", "priest");
    private static final Map<Integer, Integer> ABOVE = Map.of(1, 0, 2, 1, 3, 1, 4, 0, 5, 4);

    static final class Mover {
        int number, sort, stone, way, reach;
    }

    static final class World {
        int length, fee, seen, fine, night;
        List<Integer> says = new ArrayList<>(), at = new ArrayList<>(), home = new ArrayList<>();
        List<Mover> movers = new ArrayList<>();
        List<int[]> times = new ArrayList<>();

        World twin() {
            World twin = new World();
            twin.length = length;
            twin.fee = fee;
            twin.seen = seen;
            twin.fine = fine;
            twin.night = night;
            twin.says.addAll(says);
            twin.at.addAll(at);
            twin.home.addAll(home);
            twin.movers.addAll(movers);
            twin.times.addAll(times);
            return twin;
        }
    }

    World world;
    int fault;
    final World[] images = new World[2];
    private final ArrayDeque<World> acts = new ArrayDeque<>();
    final List<Integer> trace = new ArrayList<>();

    private static final class Fault extends RuntimeException {
        private static final long serialVersionUID = 1;
        final int place, number;

        Fault(int place, int number) {
            this.place = place;
            this.number = number;
        }
    }

    private static final Pattern TOKEN = Pattern.compile("[a-z]+|[0-9]+|;|[^ \n]", Pattern.DOTALL);
    private List<int[]> spans;
    private String text;
    private int upTo;

    int read(String tape) {
        text = tape;
        spans = new ArrayList<>();
        upTo = 0;
        Matcher m = TOKEN.matcher(tape);
        while (m.find()) {
            spans.add(new int[] {m.start(), m.end()});
        }
        try {
            world = readRoad();
            acts.clear();
            return world.says.size();
        } catch (Fault found) {
            fault = found.number;
            return -1000100 - found.place;
        }
    }

    private World readRoad() {
        World read = new World();
        wantWord("law");
        read.length = want(10, 200);
        read.fee = want(0, 20);
        read.seen = want(0, 100);
        read.fine = want(0, 99);
        wantWord(";");
        while (current().equals("stone")) {
            if (read.says.size() == 6) {
                throw new Fault(place(), 3);
            }
            wantWord("stone");
            read.says.add(want(0, 200));
            int last = read.at.isEmpty() ? -1 : read.at.get(read.at.size() - 1);
            read.at.add(want(last + 1, read.length));
            wantWord(";");
        }
        while (current().equals("mover")) {
            if (read.movers.size() == 5) {
                throw new Fault(place(), 3);
            }
            wantWord("mover");
            Mover mover = new Mover();
            mover.number = read.movers.size();
            mover.sort = Math.max(0, SORTS.indexOf(current()));
            if (mover.sort == 0) {
                throw new Fault(place(), 1);
            }
            upTo++;
            mover.stone = want(0, read.says.size() - 1);
            mover.way = want(0, 1);
            mover.reach = want(1, 5);
            wantWord(";");
            read.movers.add(mover);
        }
        if (upTo < spans.size()) {
            throw new Fault(place(), 1);
        }
        read.home.addAll(read.at);
        return read;
    }

    private String current() {
        return upTo < spans.size() ? text.substring(spans.get(upTo)[0], spans.get(upTo)[1]) : "";
    }

    private int place() {
        return upTo < spans.size() ? spans.get(upTo)[0] : text.length();
    }

    private void wantWord(String word) {
        if (!current().equals(word)) {
            throw new Fault(place(), 1);
        }
        upTo++;
    }

    private int want(int least, int most) {
        if (!current().matches("[0-9]{1,3}")) {
            throw new Fault(place(), 1);
        }
        int number = Integer.parseInt(current());
        if (number < least || number > most) {
            throw new Fault(place(), 2);
        }
        upTo++;
        return number;
    }

    private void keep() {
        acts.addLast(world.twin());
        if (acts.size() > 24) {
            acts.removeFirst();
        }
    }

    int acts() {
        return acts.size();
    }

    private static void pass(World w, int set) {
        for (Mover mover : w.movers) {
            if ((set & 1 << mover.number) != 0) {
                push(w, mover);
            }
        }
        w.night++;
    }

    private static void push(World w, Mover mover) {
        boolean odd = w.night % 2 == 1;
        if (mover.sort == 3 && odd) {
            return;
        }
        if (mover.sort == 5 && !w.at.get(mover.stone).equals(w.home.get(mover.stone))) {
            return;
        }
        boolean outward = mover.way == 1;
        if (mover.sort == 4 && odd) {
            outward = !outward;
        }
        int yards = mover.sort == 2 ? mover.reach + mover.reach : mover.reach;
        for (int yard = 0; yard < yards; yard++) {
            int next = w.at.get(mover.stone) + (outward ? 1 : -1);
            if (next < 0 || next > w.length || w.at.contains(next)) {
                return;
            }
            w.at.set(mover.stone, next);
        }
    }

    int night() {
        if (world == null) {
            return STATE;
        }
        keep();
        List<Integer> before = new ArrayList<>(world.at);
        pass(world, -1);
        int set = 0;
        for (int s = 0; s < before.size(); s++) {
            set += before.get(s).equals(world.at.get(s)) ? 0 : 1 << s;
        }
        return set;
    }

    int prove(int stone) {
        int from = world.at.get(stone);
        int to = world.home.get(stone);
        if (from == to) {
            return STATE;
        }
        for (int yard = from; yard != to;) {
            yard += Integer.signum(to - from);
            if (world.at.contains(yard)) {
                return STATE;
            }
        }
        keep();
        world.at.set(stone, to);
        return Math.abs(from - to);
    }

    int undo() {
        if (acts.isEmpty()) {
            return STATE;
        }
        List<int[]> times = world.times;
        world = acts.removeLast();
        world.times = times;
        return acts.size();
    }

    int restore(int k) {
        if (images[k] == null) {
            return STATE;
        }
        world = images[k].twin();
        acts.clear();
        return 1;
    }

    /** Of all pairs the least and the most, by all ways to stand; null: no way does. */
    int[][][] allEnds() {
        int n = world.says.size();
        int[][][] found = new int[n][n][2];
        for (int[][] row : found) {
            for (int[] pair : row) {
                pair[0] = Integer.MAX_VALUE;
                pair[1] = Integer.MIN_VALUE;
            }
        }
        return stand(new int[n], 0, found) ? found : null;
    }

    private boolean stand(int[] at, int upTo, int[][][] found) {
        if (upTo == at.length) {
            return note(at, found);
        }
        boolean any = false;
        for (int yard = upTo == 0 ? 0 : at[upTo - 1] + 1; yard <= world.length; yard++) {
            at[upTo] = yard;
            any |= stand(at, upTo + 1, found);
        }
        return any;
    }

    private boolean note(int[] at, int[][][] found) {
        for (int[] time : world.times) {
            int apart = at[time[1]] - at[time[0]];
            if (apart / time[2] != time[3]) {
                return false;
            }
        }
        for (int a = 0; a < at.length; a++) {
            for (int b = a + 1; b < at.length; b++) {
                found[a][b][0] = Math.min(found[a][b][0], at[b] - at[a]);
                found[a][b][1] = Math.max(found[a][b][1], at[b] - at[a]);
            }
        }
        return true;
    }

    int widest() {
        if (world == null) {
            return STATE;
        }
        int[][][] ends = allEnds();
        int answer = NONE;
        int width = -1;
        for (int pair = 0; pair < 36 && ends != null; pair++) {
            int a = pair / 6;
            int b = pair % 6;
            if (a < b && b < ends.length && ends[a][b][1] - ends[a][b][0] > width) {
                width = ends[a][b][1] - ends[a][b][0];
                answer = pair;
            }
        }
        return answer;
    }

    int rest() {
        if (world == null) {
            return STATE;
        }
        World thought = world.twin();
        List<List<Integer>> seen = new ArrayList<>();
        for (int night = 0; night <= 62; night++) {
            seen.add(new ArrayList<>(thought.at));
            pass(thought, -1);
        }
        for (int k = 0; k <= 60; k++) {
            if (seen.get(k).equals(seen.get(k + 1)) && seen.get(k).equals(seen.get(k + 2))) {
                return k;
            }
        }
        return NONE;
    }

    int moved(int what) {
        int n = world.says.size();
        int best = -1;
        for (int out = (1 << n) - 1; out >= 0; out--) {
            boolean alike = true;
            for (int a = 0; a < n; a++) {
                for (int b = 0; b < n; b++) {
                    boolean both = (out & 1 << a) == 0 && (out & 1 << b) == 0;
                    alike &= !both || world.at.get(a) - world.says.get(a) == world.at.get(b) - world.says.get(b);
                }
            }
            if (alike && (best < 0 || Integer.bitCount(out) <= Integer.bitCount(best))) {
                best = out;
            }
        }
        return what == 1 ? best : Integer.bitCount(best);
    }

    int who(int n, int what) {
        int many = 0;
        int least = NONE;
        for (int set = (1 << world.movers.size()) - 1; set >= 0; set--) {
            World thought = world.twin();
            thought.night = 0;
            thought.at = new ArrayList<>(world.home);
            for (int night = 0; night < n; night++) {
                pass(thought, set);
            }
            if (thought.at.equals(world.at)) {
                many++;
                least = set;
            }
        }
        return what == 0 ? many : least;
    }

    // Above and below, not in lowest terms: each yard is seen by one of 100 outcomes that are as likely as another.
    private BigInteger[] mean(int fee, int d) {
        BigInteger below = BigInteger.valueOf(100).pow(d);
        BigInteger unseen = BigInteger.valueOf(100 - world.seen).pow(d);
        BigInteger above = unseen.multiply(BigInteger.valueOf((long) fee * d))
            .subtract(below.subtract(unseen).multiply(BigInteger.valueOf(world.fine)));
        return new BigInteger[] {above, below};
    }

    int dare(int d, int what) {
        BigInteger[] mean = mean(world.fee, d);
        return mean[what].divide(mean[0].gcd(mean[1])).intValueExact();
    }

    private int best(int fee) {
        int best = 0;
        for (int d = 1; d <= 3; d++) {
            BigInteger[] old = mean(fee, best);
            BigInteger[] now = mean(fee, d);
            if (now[0].multiply(old[1]).compareTo(old[0].multiply(now[1])) > 0) {
                best = d;
            }
        }
        return best;
    }

    int bestOrFair(int what) {
        if (what == 0) {
            return best(world.fee);
        }
        int fair = 0;
        for (int fee = 0; fee <= 20; fee++) {
            fair = best(fee) == 0 ? fee : fair;
        }
        return fair;
    }

    boolean is(int mover, int kind) {
        for (int k = world.movers.get(mover).sort;; k = ABOVE.get(k)) {
            if (k == kind) {
                return true;
            }
            if (k == 0) {
                return false;
            }
        }
    }

    int ask(int mover, int what) {
        trace.clear();
        Mover asked = world.movers.get(mover);
        return what == 0 ? size(asked, asked.sort) : mark(asked, asked.sort);
    }

    private int body(int number) {
        trace.add(number);
        return number;
    }

    // As the KIND given has it, or else the nearest above it.
    private int size(Mover m, int kind) {
        switch (kind) {
            case 0:
                body(10);
                return m.reach;
            case 1:
                body(11);
                return size(m, 0) + mark(m, m.sort);
            case 2:
                body(12);
                return 0 - size(m, 1);
            case 4:
                body(13);
                return size(m, 0) - 100;
            case 5:
                body(14);
                return 2 * size(m, 4);
            default:
                return size(m, ABOVE.get(kind));
        }
    }

    private int mark(Mover m, int kind) {
        switch (kind) {
            case 0:
                body(20);
                return m.number;
            case 1:
                body(21);
                return mark(m, 0) + world.at.get(m.stone);
            case 3:
                body(22);
                return mark(m, 1) - 1000;
            case 4:
                body(23);
                return mark(m, 0) - size(m, m.sort);
            case 2:
                body(24);
                return 2 * mark(m, 1);
            default:
                return mark(m, ABOVE.get(kind));
        }
    }

    String told() {
        return world == null ? "no road" : Arrays.asList(world.length, world.says, world.at, world.home).toString();
    }
}
