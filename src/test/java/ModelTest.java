import java.util.Random;

/** Runs of calls drawn by fixed seeds, each answer beside that of SlowModel. */
public final class ModelTest {
    private static final int RUNS = 5000, CALLS = 512;
    // What the dearest step takes: five movers, of each eight answers and two traces of eight.
    private static final int DEAREST = 130;
    private static final String[] SORTS = {"inn", "carter", "parish", "thief", "priest"};
    private static final Due due = new Due("ModelTest");

    private final Random random;
    private final NightStones x = new NightStones();
    private final SlowModel model = new SlowModel();
    private final String name;
    private int called;

    private ModelTest(int seed) {
        random = new Random(seed);
        name = "run " + seed;
    }

    public static void main(String[] args) {
        for (int run = 0; run < RUNS && due.isAllWell(); run++) {
            new ModelTest(run).run();
        }
        due.close();
    }

    private void run() {
        while (called + DEAREST <= CALLS && due.isAllWell()) {
            step();
        }
    }

    private int below(int n) {
        return random.nextInt(n);
    }

    private void is(String call, long answer, long answerDue) {
        called++;
        due.is(name + ": " + model.told() + ": " + call, answer, answerDue);
    }

    private void step() {
        // A spoilt text may tell of a road so long that all ways to stand on it cannot be tried.
        if (model.world == null || model.world.length > 20 || below(40) == 0) {
            readRoad();
            return;
        }
        switch (below(8)) {
            case 0:
            case 1:
                act();
                break;
            case 2:
                measure();
                break;
            case 3:
                foretell();
                break;
            case 4:
                is("widest", x.widest(), model.widest());
                is("rest", x.rest(), model.rest());
                break;
            case 5:
                askMovers();
                break;
            case 6:
                keepImages();
                break;
            default:
                lookAtStones();
                break;
        }
    }

    private void readRoad() {
        String text = below(3) == 0 ? spoilt(roadText()) : roadText();
        Tape.feed(x, text);
        called += 2 + text.length() / 8;
        is("road of " + text, x.road(), model.read(text));
        is("fault of " + text, x.fault(), model.fault);
    }

    private String roadText() {
        int length = 10 + below(4);
        StringBuilder text = new StringBuilder();
        word(text, "law").append(length);
        number(text, below(21));
        number(text, below(3) == 0 ? below(101) : below(10));
        number(text, below(2) == 0 ? below(100) : below(8));
        word(text, ";");
        int stones = 0;
        for (int at = below(3); at <= length && stones < 6; at += 1 + below(4)) {
            word(text, "stone");
            text.append(Math.max(0, at + below(3) - 1));
            number(text, at);
            word(text, ";");
            stones++;
        }
        for (int movers = below(6); movers > 0 && stones > 0; movers--) {
            word(text, "mover");
            word(text, SORTS[below(5)]);
            text.append(below(stones));
            number(text, below(2));
            number(text, 1 + below(5));
            word(text, ";");
        }
        return text.toString();
    }

    private StringBuilder word(StringBuilder text, String word) {
        if (text.length() > 0 && Character.isLetter(text.charAt(text.length() - 1))) {
            text.append(' ');
        }
        return text.append(word).append(below(3) == 0 ? "\n" : " ");
    }

    private void number(StringBuilder text, int number) {
        text.append(' ').append(below(6) == 0 ? String.format("%03d", number) : "" + number);
        text.append(below(4) == 0 ? "  " : "");
    }

    private String spoilt(String text) {
        StringBuilder spoilt = new StringBuilder(text);
        String signs = " \n;;099az?\u00e9";
        for (int k = below(3); k >= 0 && spoilt.length() > 0; k--) {
            int i = below(spoilt.length());
            switch (below(4)) {
                case 0:
                    spoilt.deleteCharAt(i);
                    break;
                case 1:
                    spoilt.insert(i, signs.charAt(below(signs.length())));
                    break;
                case 2:
                    spoilt.setCharAt(i, signs.charAt(below(signs.length())));
                    break;
                default:
                    spoilt.setLength(below(8) == 0 ? i : spoilt.length());
                    spoilt.append(below(2) == 0 ? "stone 9 " + below(12) + ";" : "mover inn 0 0 1;");
                    break;
            }
        }
        return spoilt.toString();
    }

    private int stones() {
        return model.world.says.size();
    }

    private void act() {
        if (below(5) == 0) {
            is("undo", x.undo(), model.undo());
        } else if (stones() > 0 && below(3) == 0) {
            int stone = below(stones());
            is("prove " + stone, x.prove(stone), model.prove(stone));
        } else {
            is("night", x.night(), model.night());
        }
        is("acts", x.count(4), model.acts());
        is("nights", x.count(3), model.world.night);
    }

    private void measure() {
        if (stones() < 2 || below(12) == 0) {
            is("forget", x.forget(), model.world.times.size());
            model.world.times.clear();
            return;
        }
        int a = below(stones() - 1);
        int b = a + 1 + below(stones() - a - 1);
        int v = 1 + below(6);
        int t = Math.max(0, (b - a + below(4)) / v);
        if (model.world.times.size() < 12) {
            addTime(a, b, v, t);
        }
        int[][][] ends = model.allEnds();
        for (int what = 0; what < 2; what++) {
            is("ends " + a + b, x.ends(a, b, what), ends == null ? SlowModel.NONE : ends[a][b][what]);
        }
    }

    private void addTime(int a, int b, int v, int t) {
        model.world.times.add(new int[] {a, b, v, t});
        if (below(2) == 0) {
            is("time", x.time(a, b, v, t), model.world.times.size());
            return;
        }
        x.row(3, below(3), 6);
        called++;
        int[] items = {a, b, v, t};
        for (int i = 0; i < 4; i++) {
            is("set", x.set(3, 1 + i, items[i]), items[i]);
        }
        is("times", x.times(3, 1, 1), model.world.times.size());
    }

    private void foretell() {
        int n = below(10);
        int d = below(4);
        for (int what = 0; what < 2; what++) {
            is("moved " + what, x.moved(what), model.moved(what));
            is("who " + n + what, x.who(n, what), model.who(n, what));
            is("dare " + d + what, x.dare(d, what), model.dare(d, what));
            is("best " + what, x.best(what), model.bestOrFair(what));
        }
        int gone = Math.min(9, model.world.night);
        is("who " + gone, x.who(gone, 0), model.who(gone, 0));
    }

    private void askMovers() {
        for (int mover = 0; mover < model.world.movers.size(); mover++) {
            is("kind", x.kind(mover), model.world.movers.get(mover).sort);
            for (int kind = 0; kind < 6; kind++) {
                is("as " + kind, x.as(mover, kind), model.is(mover, kind) ? mover : -1000013);
            }
            for (int what = 0; what < 2; what++) {
                is("ask " + mover + what, x.ask(mover, what), model.ask(mover, what));
                for (int i = 0; i < 8; i++) {
                    is("trace " + i, x.trace(i), i < model.trace.size() ? model.trace.get(i) : SlowModel.NONE);
                }
            }
        }
    }

    private void keepImages() {
        int k = below(2);
        if (below(3) == 0) {
            is("image", x.image(k), 1);
            model.images[k] = model.world.twin();
        } else {
            is("restore", x.restore(k), model.restore(k));
        }
        is("times", x.count(5), model.world.times.size());
    }

    private void lookAtStones() {
        is("stones", x.count(1), stones());
        is("movers", x.count(2), model.world.movers.size());
        for (int stone = 0; stone < stones(); stone++) {
            is("says", x.stone(stone, 0), model.world.says.get(stone));
            is("at", x.stone(stone, 1), model.world.at.get(stone));
            is("home", x.stone(stone, 2), model.world.home.get(stone));
            int apart = Math.abs(model.world.says.get(stone) - model.world.says.get(0));
            is("pay", x.carry(0, stone, 0), model.world.fee * apart);
            is("went", x.carry(stone, 0, 1), Math.abs(model.world.at.get(stone) - model.world.at.get(0)));
        }
    }
}
