/** Feeds a text, eight bytes at a time. */
final class Tape {
    private Tape() {
    }

    static int feed(NightStones stones, String text) {
        int fed = stones.count(6);
        for (int from = 0; from < text.length(); from += 8) {
            int to = Math.min(text.length(), from + 8);
            fed = stones.feed(packed(text.substring(from, to)), to - from);
        }
        return fed;
    }

    static long packed(String text) {
        long w = 0;
        for (int i = 0; i < text.length(); i++) {
            w = w << 8 | text.charAt(i) & 255;
        }
        return w;
    }

    static int road(NightStones stones, String text) {
        feed(stones, text);
        return stones.road();
    }

    static NightStones with(String text) {
        NightStones stones = new NightStones();
        road(stones, text);
        return stones;
    }
}
