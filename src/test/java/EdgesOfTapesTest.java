import java.util.ArrayList;
import java.util.List;

/** The boundary sentences on texts: part 1 of the Terms, promises 6 to 8. In texts ^ tells where a FAULT is. */
public final class EdgesOfTapesTest extends Edges {
    private static final Due due = new Due("EdgesOfTapesTest");
    private static final String LAW = "law 100 3 10 2;";
    private static final String ONE = LAW + "stone 0 0;";
    private static final String SIX_STONES = LAW + SIX;
    private static final String INN = "mover inn 0 0 1;";
    private static final String FIVE_MOVERS = SIX_STONES + INN + INN + INN + INN + INN;

    private EdgesOfTapesTest() {
    }

    public static void main(String[] args) {
        roomOnTheTape();
        noneComes();
        bytesOfAFeed();
        lowestBytes();
        emptyThen();
        separators();
        otherBytes();
        noneNeeded();
        letters();
        figures();
        figuresOfANumber();
        lengths();
        fees();
        seens();
        fines();
        lawAlone();
        saysOfStones();
        placesOfStones();
        eachFarther();
        sixStones();
        sorts();
        stonesOfMovers();
        ways();
        reaches();
        fiveMovers();
        orderOfParts();
        numbersNotAsTold();
        inPlaceOfTheOneBefore();
        imagesAndRowsStay();
        firstToken();
        leastOfOneToken();
        wordOfOneTooMany();
        everyEnd();
        endsByThisTapeAlone();
        endsOfAFullTape();
        placesOfFaults();
        latestFault();
        due.close();
    }

    private static void takes(String text, int stones) {
        NightStones x = new NightStones();
        due.is("'" + text + "'", Tape.road(x, text), stones);
        due.is("'" + text + "', fault", x.fault(), 0);
        due.is("'" + text + "', stones", x.count(1), stones);
    }

    private static void faults(String marked, int fault) {
        String text = marked.replace("^", "");
        NightStones x = new NightStones();
        due.is("'" + marked + "'", Tape.road(x, text), -1000100 - marked.indexOf('^'));
        due.is("'" + marked + "', fault", x.fault(), fault);
        due.is("'" + marked + "', no road", x.night(), STATE);
    }

    /** A number between two texts: such as are told, and such as are not. */
    private static void ranges(String ahead, int least, int most, String behind, int stones) {
        takes(ahead + least + behind, stones);
        takes(ahead + most + behind, stones);
        faults(ahead + "^" + (most + 1) + behind, 2);
        faults(ahead + "^999" + behind, 2);
        if (least > 0) {
            faults(ahead + "^" + (least - 1) + behind, 2);
            faults(ahead + "^0" + behind, 2);
        }
    }

    private static void roomOnTheTape() {
        due.by("Terms 1", "THE TAPE has at most 400 bytes");
        for (int n = 1; n <= 8; n++) {
            NightStones x = new NightStones();
            int many = 0;
            for (; many + 8 <= 400 - n; many += 8) {
                due.is("eight", x.feed(0x2020202020202020L, 8), many + 8);
            }
            int left = 400 - many;
            if (left > 8) {
                due.is("eight of " + left, x.feed(0, 8), many + 8);
                left -= 8;
            }
            due.is("left " + left + ", one more", left < 8 ? x.feed(0, left + 1) : x.feed(0, 9), left < 8 ? FULL : BAD);
            due.is("none comes", x.count(6), 400 - left);
            due.is("the last", x.feed(0, left), 400);
            due.is("one", x.feed(0, 1), FULL);
            due.is("eight", x.feed(0, 8), FULL);
            due.is("none came", x.count(6), 400);
        }
    }

    private static void noneComes() {
        due.by("Promise 6", "FULL: none comes.");
        StringBuilder text = new StringBuilder(FIVE_MOVERS);
        while (text.length() < 399) {
            text.insert(4, ' ');
        }
        takes(text + "\n", 6);
        NightStones x = new NightStones();
        Tape.feed(x, text + "\n");
        due.is("full", x.feed(';', 1), FULL);
        due.is("none came", x.road(), 6);
        faults(text + "^;", 1);
    }

    private static void bytesOfAFeed() {
        due.by("Promise 6", "BAD: n; FULL");
        NightStones x = new NightStones();
        for (int n = 1; n <= 8; n++) {
            due.is("n " + n, x.feed(0, n), n * (n + 1) / 2);
        }
        for (int n : outside(1, 8)) {
            due.is("n " + n, x.feed(-1, n), BAD);
        }
        due.is("none came", x.count(6), 36);
    }

    private static void lowestBytes() {
        due.by("Promise 6", "The lowest n bytes of w (1 to 8), the highest of them first, come behind the tape");
        String text = "law 200 20 0 99;stone 7 5;";
        for (int n = 1; n <= 8; n++) {
            NightStones x = new NightStones();
            int fed = 0;
            for (int from = 0; from < text.length(); from += n) {
                String part = text.substring(from, Math.min(text.length(), from + n));
                fed += part.length();
                // Ahead of the lowest bytes stand others, that are not to come.
                long others = part.length() == 8 ? 0 : 0x8182838485868788L << 8 * part.length();
                due.is("by " + n, x.feed(others | Tape.packed(part), part.length()), fed);
            }
            due.is("read, by " + n, x.road(), 1);
            due.is("says", x.stone(0, 0), 7);
            due.is("stands", x.stone(0, 1), 5);
        }
        NightStones x = new NightStones();
        x.feed(Tape.packed("law\u00ff\u00fe\u0080\u007f\u0081"), 8);
        due.is("bytes above 127 are no tokens", x.road(), -1000103);
    }

    private static void emptyThen() {
        due.by("Promise 7", "The tape, empty then, is read: how many STONES there are.");
        NightStones x = new NightStones();
        due.is("no stone", Tape.road(x, LAW), 0);
        due.is("empty", x.count(6), 0);
        due.is("an empty tape", x.road(), -1000100);
        due.is("six stones", Tape.road(x, SIX_STONES), 6);
        due.is("empty", x.count(6), 0);
        due.is("a fault", Tape.road(x, LAW + "?" + SIX), -1000115);
        due.is("empty, behind a fault", x.count(6), 0);
        for (int k = 1; k <= 50; k++) {
            due.is("room for all", x.feed(0x2020202020202020L, 8), 8 * k);
        }
        due.is("the end of all", x.road(), -1000500);
        due.is("one stone, nothing is left of those before", Tape.road(x, ONE), 1);
    }

    private static void separators() {
        due.by("Terms 1", "bytes 32 and 10 ahead of, between, behind these, as many as wanted");
        takes("law 100 3 10 2;stone 0 0;mover inn 0 0 1;", 1);
        takes(" law 100 3 10 2;stone 0 0;mover inn 0 0 1; ", 1);
        takes("\nlaw\n100\n3\n10\n2\n;\nstone\n0\n0\n;\nmover\ninn\n0\n0\n1\n;\n", 1);
        takes("  \n \n\n law \n 100\n\n3  10 \n2 ;\n \nstone   0\n\n\n0  ; mover \n inn\n 0 \n0  1 \n\n ; \n", 1);
        StringBuilder many = new StringBuilder(ONE);
        while (many.length() < 400) {
            many.insert(3, many.length() % 2 == 0 ? ' ' : '\n');
        }
        takes(many.toString(), 1);
    }

    private static void otherBytes() {
        due.by("Terms 1", "bytes 32 and 10");
        for (char other : new char[] {0, 9, 11, 12, 13, 31, 33, 42, 127, 160, 255}) {
            faults("law^" + other + "100 3 10 2;", 1);
            faults("^" + other + LAW, 1);
            faults(LAW + "^" + other, 1);
            faults("law 100 3 10^" + other + " 2;", 1);
        }
    }

    private static void noneNeeded() {
        due.by("Terms 1", "(none is needed where one ends without)");
        takes("law100 3 10 2;stone0 0;stone0 9;mover inn0 0 1;mover thief1 1 5;", 2);
        takes("law 100 3 10 2 ; stone 0 0 ;mover inn 0 0 1 ;", 1);
        faults(ONE + "^moverinn 0 0 1;", 1);
        faults("law 100 3 12^;", 1);
        faults("law ^1003 10 2;", 1);
        faults("law 100 3 10 2;stone 00^;", 1);
        faults("^lawlaw", 1);
    }

    private static void letters() {
        due.by("Terms 1", "NAMES (letters a to z)");
        faults("^lawa100 3 10 2;", 1);
        faults("^lawz100 3 10 2;", 1);
        faults("law^`100 3 10 2;", 1);
        faults("law^{100 3 10 2;", 1);
        faults("law^A100 3 10 2;", 1);
        faults("law^Z100 3 10 2;", 1);
        faults("^Law 100 3 10 2;", 1);
        faults("^LAW 100 3 10 2;", 1);
        faults("^la 100 3 10 2;", 1);
        faults("^aw 100 3 10 2;", 1);
        faults("^lax 100 3 10 2;", 1);
        faults("^kaw 100 3 10 2;", 1);
        faults("^l", 1);
        faults("^laws 100 3 10 2;", 1);
    }

    private static void figures() {
        due.by("Terms 1", "NUMBERS (figures, 3 at most)");
        takes("law 123 4 56 78;stone 90 0;", 1);
        takes("law 190 0 9 09;", 0);
        faults("law 19^/ 0 9 9;", 1);
        faults("law 19^: 0 9 9;", 1);
        faults("law ^/9 0 9 9;", 1);
        faults("law ^:9 0 9 9;", 1);
        faults("law ^-19 0 9 9;", 1);
        faults("law ^+19 0 9 9;", 1);
        faults("law 19^.0 0 9 9;", 1);
        faults("law 19^a 0 9 9;", 1);
        NightStones x = on("law 123 4 56 78;stone 90 0;stone 175 123;");
        due.is("read by its figures", x.carry(0, 1, 0), 4 * 85);
        due.is("read by its figures, where", x.stone(1, 1), 123);
    }

    private static void figuresOfANumber() {
        due.by("Terms 1", "a run of four figures or more, at its first");
        takes("law 010 000 000 000;stone 000 000;stone 001 010;", 2);
        faults("law ^0010 0 0 0;", 1);
        faults("law ^0100 0 0 0;", 1);
        faults("law ^1000 0 0 0;", 1);
        faults("law ^2000 0 0 0;", 1);
        faults("law 10 ^0000 0 0;", 1);
        faults("law 10 0 ^0001 0;", 1);
        faults("law 10 0 0 ^0000;", 1);
        faults("law 10 0 0 ^0000", 1);
        faults("law ^00000000000000000010 0 0 0;", 1);
        faults("law ^4294967306 0 0 0;", 1);
        faults("law ^18446744073709551626 0 0 0;", 1);
        faults("^1234", 1);
        faults("law ^1234;", 1);
        faults("law^0010 0 0 0;", 1);
    }

    private static void lengths() {
        due.by("Terms 1", "law: 'law' LENGTH FEE SEEN FINE ';' (10 to 200");
        ranges("law ", 10, 200, " 0 0 0;", 0);
        due.is("least", on("law 10 0 0 0;stone 0 0;stone 0 1;").ends(0, 1, 1), 10);
        due.is("most", on("law 200 0 0 0;stone 0 0;stone 0 1;").ends(0, 1, 1), 200);
    }

    private static void fees() {
        due.by("Terms 1", "law: 'law' LENGTH FEE SEEN FINE ';' (10 to 200; 0 to 20");
        ranges("law 10 ", 0, 20, " 0 0;", 0);
        due.is("least", on("law 10 0 0 0;stone 0 0;stone 200 1;").carry(0, 1, 0), 0);
        due.is("most", on("law 10 20 0 0;stone 0 0;stone 200 1;").carry(0, 1, 0), 4000);
    }

    private static void seens() {
        due.by("Terms 1", "law: 'law' LENGTH FEE SEEN FINE ';' (10 to 200; 0 to 20; 0 to 100");
        ranges("law 10 0 ", 0, 100, " 0;", 0);
        due.is("least", on("law 10 7 0 9;").dare(1, 0), 7);
        due.is("most", on("law 10 7 100 9;").dare(1, 0), -9);
    }

    private static void fines() {
        due.by("Terms 1", "law: 'law' LENGTH FEE SEEN FINE ';' (10 to 200; 0 to 20; 0 to 100; 0 to 99)");
        ranges("law 10 0 0 ", 0, 99, ";", 0);
        due.is("least", on("law 10 7 100 0;").dare(1, 0), 0);
        due.is("most", on("law 10 7 100 99;").dare(1, 0), -99);
    }

    private static void lawAlone() {
        due.by("Terms 1", "road: law { stone } { mover }.");
        takes("law 10 0 0 0;", 0);
        faults("law^;", 1);
        faults("law 10^;", 1);
        faults("law 10 0^;", 1);
        faults("law 10 0 0^;", 1);
        faults("law 10 0 0 0 ^0;", 1);
        faults("law 10 0 0 0;^;", 1);
        faults("law 10 0 0 0 ^stone 0 0;", 1);
        faults("^10 0 0 0;", 1);
        faults("^stone 0 0;", 1);
        faults("^mover inn 0 0 1;", 1);
        faults("^;law 10 0 0 0;", 1);
        faults("law 10 0 0 0;^law 10 0 0 0;", 1);
        faults("law ^law 10 0 0 0;", 1);
    }

    private static void saysOfStones() {
        due.by("Terms 1", "stone: 'stone' SAYS AT ';' (0 to 200");
        ranges(LAW + "stone ", 0, 200, " 0;", 1);
        due.is("least", on(LAW + "stone 0 0;").stone(0, 0), 0);
        due.is("most", on(LAW + "stone 200 0;").stone(0, 0), 200);
        takes(LAW + "stone 200 0;stone 0 1;stone 200 2;", 3);
    }

    private static void placesOfStones() {
        due.by("Terms 1", "stone: 'stone' SAYS AT ';' (0 to 200; 0 to LENGTH");
        for (int length : new int[] {10, 100, 200}) {
            String law = "law " + length + " 1 1 1;";
            ranges(law + "stone 0 ", 0, length, ";", 1);
            due.is("most", on(law + "stone 0 " + length + ";").stone(0, 1), length);
            faults(law + "stone 0 " + length + ";stone 0 ^" + (length + 1) + ";", 2);
            faults(law + "stone 0 " + length + ";stone 0 ^" + length + ";", 2);
        }
    }

    private static void eachFarther() {
        due.by("Terms 1", "each farther than the one told ahead");
        takes(LAW + "stone 0 0;stone 0 1;", 2);
        takes(LAW + "stone 0 41;stone 0 42;stone 0 100;", 3);
        faults(LAW + "stone 0 0;stone 0 ^0;", 2);
        faults(LAW + "stone 0 41;stone 0 ^41;", 2);
        faults(LAW + "stone 0 41;stone 0 ^40;", 2);
        faults(LAW + "stone 0 41;stone 0 ^0;", 2);
        faults(LAW + "stone 0 1;stone 0 5;stone 0 ^3;", 2);
        faults(SIX_STONES.replace("5 5;", "5 ^4;"), 2);
    }

    private static void sixStones() {
        due.by("Terms 1", "STONES 0 .. 5, 6 at most");
        StringBuilder text = new StringBuilder(LAW);
        for (int stones = 0; stones <= 6; stones++) {
            takes(text.toString(), stones);
            text.append("stone 7 ").append(stones * 3).append(';');
        }
        faults(SIX_STONES + "^stone 7 90;", 3);
        NightStones x = on(SIX_STONES);
        due.is("the last", x.stone(5, 1), 5);
        due.is("one more", x.stone(6, 1), BAD);
        due.is("none", on(LAW).stone(0, 1), BAD);
    }

    private static void sorts() {
        due.by("Terms 1", "SORT: 'inn' | 'carter' | 'parish' | 'thief' | 'priest'");
        String[] told = {"inn", "carter", "parish", "thief", "priest"};
        for (int k = 0; k < told.length; k++) {
            takes(ONE + "mover " + told[k] + " 0 0 1;", 1);
            due.is(told[k], on(ONE + "mover " + told[k] + " 0 0 1;").kind(0), k + 1);
            faults(ONE + "mover ^" + told[k] + "s 0 0 1;", 1);
            faults(ONE + "mover ^" + told[k].substring(1) + " 0 0 1;", 1);
            faults(ONE + "mover ^" + told[k].substring(0, told[k].length() - 1) + " 0 0 1;", 1);
            faults(ONE + "mover ^" + told[k].replace('i', 'j').replace('c', 'k') + " 0 0 1;", 1);
        }
        faults(ONE + "mover ^0 0 1;", 1);
        faults(ONE + "mover ^;", 1);
        faults(ONE + "mover ^mover 0 0 1;", 1);
    }

    private static void stonesOfMovers() {
        due.by("Terms 1", "a STONE told");
        ranges(ONE + "mover inn ", 0, 0, " 0 1;", 1);
        ranges(ONE + "stone 0 9;mover inn ", 0, 1, " 0 1;", 2);
        ranges(SIX_STONES + "mover inn ", 0, 5, " 0 1;", 6);
        faults(LAW + "mover inn ^0 0 1;", 2);
        faults(LAW + "mover inn ^5 0 1;", 2);
        NightStones x = on(SIX_STONES + "mover inn 5 1 1;");
        due.is("the last is pushed", x.night(), 32);
    }

    private static void ways() {
        due.by("Terms 1", "0 inward, to 0, 1 outward");
        ranges(ONE + "mover inn 0 ", 0, 1, " 1;", 1);
        NightStones x = on(100, at(50), "mover inn 0 0 1;");
        x.night();
        due.is("inward", x.stone(0, 1), 49);
        x = on(100, at(50), "mover inn 0 1 1;");
        x.night();
        due.is("outward", x.stone(0, 1), 51);
    }

    private static void reaches() {
        due.by("Terms 1", "1 outward; 1 to 5");
        ranges(ONE + "mover inn 0 0 ", 1, 5, ";", 1);
        due.is("least", on(ONE + "mover thief 0 0 1;").ask(0, 0), 1 - 100);
        due.is("most", on(ONE + "mover thief 0 0 5;").ask(0, 0), 5 - 100);
    }

    private static void fiveMovers() {
        due.by("Terms 1", "MOVERS 0 .. 4, 5 at most");
        StringBuilder text = new StringBuilder(SIX_STONES);
        for (int movers = 0; movers <= 5; movers++) {
            takes(text.toString(), 6);
            NightStones x = on(text.toString());
            due.is("how many", x.count(2), movers);
            due.is("the last", x.kind(movers - 1), movers == 0 ? BAD : 1);
            due.is("one more", x.kind(movers), BAD);
            text.append(INN);
        }
        faults(FIVE_MOVERS + "^" + INN, 3);
    }

    private static void orderOfParts() {
        due.by("Terms 1", "1 it cannot stand there, or is none");
        faults(ONE + INN + "^stone 0 9;", 1);
        faults(ONE + INN + "^law 10 0 0 0;", 1);
        faults(ONE + INN + "^;", 1);
        faults(ONE + INN + "^7", 1);
        faults(ONE + "^inn 0 0 1;", 1);
        faults(ONE + "mover inn ^inn 0 1;", 1);
        faults(ONE + "mover inn 0 ^; 1;", 1);
        faults(ONE + "mover inn 0 0 ^;", 1);
        faults(ONE + "mover inn 0 0 1 ^1;", 1);
        faults(LAW + "stone ^;", 1);
        faults(LAW + "stone 0 ^;", 1);
        faults(LAW + "stone 0 0 ^0;", 1);
        faults(LAW + "stone 0 0^,", 1);
        faults(LAW + "^stones 0 0;", 1);
        faults(LAW + "^ston 0 0;", 1);
        faults(LAW + "^movers inn 0 0 1;", 1);
    }

    // Each NUMBER in turn is one more than may be, or the least that may not be, all others are as they may be.
    private static void numbersNotAsTold() {
        due.by("Terms 1", "2 a NUMBER that is not as told");
        String[] words = {"law ", " ", " ", " ", ";stone ", " ", ";stone ", " ", ";mover inn ", " ", " ", ";"};
        int[] told = {50, 20, 100, 99, 200, 49, 0, 50, 1, 1, 5};
        int[] above = {201, 21, 101, 100, 201, 51, 201, 51, 2, 2, 6};
        int[] below = {9, -1, -1, -1, -1, -1, -1, 49, -1, -1, 0};
        for (int wrong = -1; wrong < told.length; wrong++) {
            StringBuilder higher = new StringBuilder(words[0]);
            StringBuilder lower = new StringBuilder(words[0]);
            for (int k = 0; k < told.length; k++) {
                higher.append(k == wrong ? "^" + above[k] : "" + told[k]).append(words[k + 1]);
                lower.append(k == wrong ? "^" + below[k] : "" + told[k]).append(words[k + 1]);
            }
            if (wrong < 0) {
                takes(higher.toString(), 2);
            } else {
                faults(higher.toString(), 2);
                // No NUMBER is below 0: the sign stands for none.
                faults(lower.toString(), below[wrong] < 0 ? 1 : 2);
            }
        }
    }

    private static void inPlaceOfTheOneBefore() {
        due.by("Terms 1", "A ROAD that is read stands in place of the one before (none at first): NIGHT 0; its HOMES are "
            + "where STONES stand; no ACT can be undone, there are no TIMES");
        NightStones x = on(60, at(5, 20, 40), "mover inn 1 1 5;mover thief 0 1 1;mover inn 2 1 1;");
        nights(x, 3);
        x.prove(1);
        x.time(0, 1, 5, 1);
        due.is("read", Tape.road(x, "law 30 2 0 0;stone 9 3;stone 4 8;mover parish 1 1 1;"), 2);
        due.is("stones", x.count(1), 2);
        due.is("movers", x.count(2), 1);
        due.is("night 0", x.count(3), 0);
        due.is("no act", x.count(4), 0);
        due.is("nothing is undone", x.undo(), STATE);
        due.is("no times", x.count(5), 0);
        due.is("unbound", x.ends(0, 1, 1), 30);
        due.is("stands", x.stone(1, 1), 8);
        due.is("is home", x.stone(1, 2), 8);
        due.is("no third stone", x.stone(2, 1), BAD);
        due.is("no second mover", x.kind(1), BAD);
        due.is("a parish on night 0", x.night(), 2);
        due.is("the same again", Tape.road(x, "law 30 2 0 0;stone 9 3;stone 4 8;mover parish 1 1 1;"), 2);
        due.is("night 0 again", x.count(3), 0);
        due.is("no stone at last", Tape.road(x, "law 30 2 0 0;"), 0);
        due.is("none", x.stone(0, 1), BAD);
        due.is("no mover", x.kind(0), BAD);
    }

    private static void imagesAndRowsStay() {
        due.by("Terms 1", "IMAGES and ROWS stay.");
        NightStones x = on(60, at(5, 20), "mover inn 1 1 5;");
        x.image(0);
        x.night();
        x.image(1);
        x.row(0, 1, 4);
        x.row(5, 2, 1);
        put(x, 0, 0, 0, 1, 7, 3);
        due.is("read", Tape.road(x, "law 90 2 0 0;stone 9 3;stone 4 8;"), 2);
        due.is("rows", x.count(0), 2);
        due.is("as they were", x.times(0, 0, 1), 1);
        due.is("least", x.ends(0, 1, 0), 21);
        due.is("image 1", x.restore(1), 1);
        due.is("where it stood", x.stone(1, 1), 25);
        due.is("image 0", x.restore(0), 1);
        due.is("where it stood", x.stone(1, 1), 20);
        due.is("the other row", x.drop(5), 1);
    }

    private static void firstToken() {
        due.by("Terms 1", "FAULTS, the first TOKEN that has one (its first byte)");
        faults("law ^9 21 101 100;", 2);
        faults("law 10 ^21 101 100;", 2);
        faults("law 10 0 ^101 100;", 2);
        faults("law ^9 x", 2);
        faults("law ^x 9", 1);
        faults("law 10 0 0 ^100;stone", 2);
        faults(LAW + "stone ^201 101;", 2);
        faults(LAW + "stone 0 ^101 ?", 2);
        faults(ONE + "mover inn ^1 2 6;", 2);
        faults(ONE + "mover inn 0 ^2 6;", 2);
        faults(ONE + "mover inn 0 0 ^6", 2);
        faults("law   \n  ^209 0 0 0;", 2);
        faults("   ^stone", 1);
    }

    private static void leastOfOneToken() {
        due.by("Terms 1", "of one TOKEN the least");
        faults("law 10 0 0 0 ^999;", 1);
        faults("law 10 0 0 0;^999", 1);
        faults("law 10 0 0 0;^9999", 1);
        faults("law ^9999 0 0 0;", 1);
        faults(LAW + "stone 0 0 ^201;", 1);
        faults(SIX_STONES + INN + "^stone 0 9;", 1);
        faults(FIVE_MOVERS + "^stone 0 9;", 1);
        faults(SIX_STONES.replace("5 5;", "5 ^stone"), 1);
        faults(SIX_STONES.replace("5 5;", "5 5 ^stone"), 1);
        faults(SIX_STONES + INN + INN + INN + INN + "mover ^mover", 1);
        faults(SIX_STONES + INN + INN + INN + INN + "mover inn 0 0 1 ^mover", 1);
    }

    private static void wordOfOneTooMany() {
        due.by("Terms 1", "3 a stone, a mover more than there is room for (its word)");
        faults(SIX_STONES + "^stone", 3);
        faults(SIX_STONES + " \n ^stone", 3);
        faults(SIX_STONES + "^stone 201 0;", 3);
        faults(SIX_STONES + "^stone ?", 3);
        faults(SIX_STONES + "^stone9999", 3);
        faults(SIX_STONES + "^stones", 1);
        faults(FIVE_MOVERS + "^mover", 3);
        faults(FIVE_MOVERS + "\n^mover dog 9 9 9;", 3);
        faults(FIVE_MOVERS + "^moverinn 0 0 1;", 1);
        faults(ONE + INN + INN + INN + INN + INN + "^mover", 3);
    }

    private static void everyEnd() {
        due.by("Terms 1", "the end: how many bytes there are");
        String text = FIVE_MOVERS;
        List<Integer> ends = new ArrayList<>();
        for (int i = 1; i < text.length(); i++) {
            boolean within = Character.isLetterOrDigit(text.charAt(i)) && Character.isLetterOrDigit(text.charAt(i - 1));
            if (!within && text.charAt(i - 1) != ';') {
                ends.add(i);
            }
        }
        faults("^", 1);
        faults(" ^", 1);
        faults("\n\n\n^", 1);
        for (int end : ends) {
            faults(text.substring(0, end) + "^", 1);
            faults(text.substring(0, end) + " \n ^", 1);
        }
        due.holds("many ends", ends.size() > 60);
    }

    // What an earlier tape held behind the end of this one is no part of it.
    private static void endsByThisTapeAlone() {
        due.by("Promise 7", "The tape, empty then, is read");
        NightStones x = new NightStones();
        String[] texts = {"law", "law 10", "law 10 0 0 0", LAW + "stone", LAW + "stone 0 1", ONE + "mover inn"};
        for (String text : texts) {
            for (String behind : new String[] {"a", "1", ";", "?", " "}) {
                Tape.road(x, "?" + text.substring(1) + behind + behind);
                due.is("'" + text + "' where '" + behind + "' was", Tape.road(x, text), -1000100 - text.length());
            }
        }
        Tape.road(x, ONE + "stone 0 9;");
        due.is("a stone that was on the one before", Tape.road(x, ONE), 1);
    }

    private static void endsOfAFullTape() {
        due.by("Terms 1", "the end: how many bytes there are");
        for (String last : new String[] {"stone", "stone 0", "stone 0 1", "stone 0 ", "stone7", "s", "stone 0 1\n"}) {
            StringBuilder text = new StringBuilder(LAW);
            while (text.length() < 400 - last.length()) {
                text.append(' ');
            }
            boolean isName = last.equals("s");
            faults(text + (isName ? "^s" : last + "^"), 1);
        }
        StringBuilder text = new StringBuilder("law");
        while (text.length() < 400) {
            text.append(' ');
        }
        faults(text + "^", 1);
    }

    private static void placesOfFaults() {
        due.by("Promise 7", "-1000100 less the place of a FAULT");
        NightStones x = new NightStones();
        due.is("the first place", Tape.road(x, "?"), -1000100);
        due.is("the next", Tape.road(x, " ?"), -1000101);
        StringBuilder text = new StringBuilder(LAW);
        while (text.length() < 399) {
            text.append(' ');
        }
        due.is("the last place", Tape.road(x, text + "?"), -1000499);
        due.is("the end of a full tape", Tape.road(x, text.substring(0, 14) + text.substring(15) + "  "), -1000500);
        due.is("the same, without its last byte", Tape.road(x, text.substring(0, 14) + text.substring(15) + " "), -1000499);
    }

    private static void latestFault() {
        due.by("Promise 8", "The number of the latest FAULT; 0 before one.");
        NightStones x = new NightStones();
        due.is("before one", x.fault(), 0);
        Tape.road(x, LAW);
        due.is("a road has none", x.fault(), 0);
        Tape.road(x, "law 9");
        due.is("2", x.fault(), 2);
        Tape.road(x, LAW);
        due.is("the latest yet", x.fault(), 2);
        Tape.road(x, SIX_STONES + "stone");
        due.is("3", x.fault(), 3);
        x.night();
        x.image(0);
        x.restore(0);
        due.is("3 yet", x.fault(), 3);
        x.road();
        due.is("1", x.fault(), 1);
        due.is("asked twice", x.fault(), 1);
    }
}
