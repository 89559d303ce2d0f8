import java.util.Random;

/** Calls of all kinds with arguments near and far, in whatever state: none throws, what is refused changes nothing. */
public final class HammerTest {
    private static final int RUNS = 10000, CALLS = 512;
    // What the dearest step takes: two looks, and a text of 25 feeds.
    private static final int DEAREST = 80;
    private static final int[] FAR = {Integer.MIN_VALUE, Integer.MIN_VALUE + 1, -1000001, -41, -2, -1, 40, 41, 99, 100,
        255, 256, 399, 400, 1 << 16, 1 << 30, Integer.MAX_VALUE - 1, Integer.MAX_VALUE};
    private static final String[] TEXTS = {
        "law 40 7 20 9;stone 0 0;stone 5 5;stone 10 12;stone 20 20;stone 33 30;"
            + "mover inn 1 1 2;mover carter 2 0 1;mover parish 3 1 3;mover thief 4 1 4;mover priest 0 1 1;",
        "law 200 20 100 99;stone 200 0;stone 0 200;mover carter 0 1 5;mover thief 1 0 5;",
        "law 10 0 0 0;", "law 10 20 0 99;stone 7 5;mover priest 0 1 5;",
        "law 30 1 1 1;stone 1 1;stone 2 2;stone 3 3;stone 4 4;stone 5 5;stone 6 6;mover inn 5 1 1;",
        "law 9 0 0 0;", "law 1234", "", "stone", "law 10 0 0 0;mover inn 0 0 1;"};
    private static final Due due = new Due("HammerTest");

    private final Random random;
    private final NightStones x = new NightStones();
    private int called;

    private HammerTest(int seed) {
        random = new Random(seed);
    }

    public static void main(String[] args) {
        for (int seed = 0; seed < RUNS; seed++) {
            new HammerTest(seed).run();
        }
        due.close();
    }

    private void run() {
        while (called + DEAREST <= CALLS) {
            boolean looks = random.nextInt(8) == 0;
            long before = looks ? counted() : 0;
            int method = random.nextInt(30);
            int answer = call(method);
            called += method == 29 ? 30 : 1;
            boolean refused = answer == NightStones.BAD || answer == NightStones.STATE || answer == NightStones.FULL;
            if (looks && refused && method != 1) {
                due.is("what method " + method + " refuses changes nothing", counted(), before);
            }
        }
    }

    private long counted() {
        long all = 0;
        called += 10 + 2 * x.count(1);
        for (int what = 0; what <= 6; what++) {
            all = all * 1009 + x.count(what);
        }
        for (int stone = 0; stone < x.count(1); stone++) {
            all = all * 1009 + x.stone(stone, 1);
        }
        return all * 1009 + x.status();
    }

    private int any() {
        return random.nextInt(4) == 0 ? FAR[random.nextInt(FAR.length)] : random.nextInt(random.nextBoolean() ? 3 : 13);
    }

    private int call(int method) {
        switch (method) {
            case 0: return x.row(any(), any(), any() * (random.nextInt(9) == 0 ? -1 : 3));
            case 1: return x.set(any(), any(), any());
            case 2: return x.copy(any(), any(), any(), any(), any());
            case 3: return x.drop(any());
            case 4: return x.feed(random.nextLong(), any());
            case 5: return x.road();
            case 6: return x.fault();
            case 7: return x.night();
            case 8: return x.prove(any());
            case 9: return x.undo();
            case 10: return x.stone(any(), any());
            case 11: return x.carry(any(), any(), any());
            case 12: return x.time(any(), any(), any(), any());
            case 13: return x.times(any(), any(), any());
            case 14: return x.forget();
            case 15: return x.ends(any(), any(), any());
            default: return more(method);
        }
    }

    private int more(int method) {
        switch (method) {
            case 16: return x.widest();
            case 17: return x.rest();
            case 18: return x.moved(any());
            case 19: return x.who(any(), any());
            case 20: return x.dare(any(), any());
            case 21: return x.best(any());
            case 22: return x.image(any());
            case 23: return x.restore(any());
            case 24: return x.kind(any());
            case 25: return x.as(any(), any());
            case 26: return x.ask(any(), any());
            case 27: return x.trace(any());
            case 28: return x.count(any());
            default: return read();
        }
    }

    private int read() {
        x.road();
        return Tape.road(x, TEXTS[random.nextInt(TEXTS.length)]);
    }
}
