import java.util.Random;

/** Promises 16 to 20: lots, rings. */
public final class LotsTest {
    private static final int BAD = Check.BAD, NONE = Check.NONE, FULL = Check.FULL, MIN = Check.MIN, MAX = Check.MAX;
    private static final Check c = new Check("LotsTest");

    public static void main(String[] args) {
        lot();
        both();
        chance();
        chanceOfForty();
        shyest();
        shyestOfCloseOnes();
        inside();
        c.end();
    }

    private static void lot() {
        DawnFair x = new DawnFair();
        long before = x.digest();
        int[][] bad = {{-1, 0, NONE}, {256, 0, NONE}, {255, -1, 0}, {255, 256, 0}, {3, 4, 2}, {3, 7, 0}, {3, 1, 1},
            {3, 1, NONE}, {3, 0, 0}, {3, 0, -2}, {3, 3, 2}, {3, 3, 8}, {3, 3, 32}, {3, 3, -2}, {255, 255, MAX},
            {255, 255, MIN}, {MAX, 0, NONE}, {MIN, 0, NONE}, {255, MAX, 0}, {255, MIN, 0}, {0, 1, 0}};
        for (int[] b : bad) {
            c.due("lot BAD " + b[0] + " " + b[1] + " " + b[2], x.lot(b[0], b[1], b[2]), BAD);
        }
        c.due("refused lot", x.digest(), before);
        c.due("lot with none there", x.lot(0, 0, NONE), 0);
        c.due("lot with all", x.lot(255, 255, 7), 1);
        c.due("lot without bids", x.lot(255, 0, NONE), 2);
        for (int i = 3; i < 40; i++) {
            c.due("lot", x.lot(3, 2, 1), i);
        }
        before = x.digest();
        c.due("lot FULL", x.lot(3, 2, 1), FULL);
        c.due("lot BAD ahead of FULL", x.lot(3, 2, 0), BAD);
        c.due("lots", x.count(3), 40);
        c.due("refused lot", x.digest(), before);
    }

    private static void both() {
        DawnFair x = new DawnFair();
        x.lot(0b0011, 0b0001, 0);
        x.lot(0b0011, 0b0011, 1);
        x.lot(0b0111, 0b0101, 2);
        x.lot(0b0111, 0b0110, 1);
        x.lot(0b0111, 0, NONE);
        x.lot(0b0001, 0b0001, 0);
        x.lot(0b0110, 0b0010, 1);
        int[][] want = {{5, 3, 2, 1}, {3, 1, 2, 1}};
        for (int what = 0; what < 4; what++) {
            c.due("both(0, 1, " + what + ")", x.both(0, 1, what), want[0][what]);
            c.due("both(0, 2, " + what + ")", x.both(0, 2, what), want[1][what]);
            c.due("both(6, 7, " + what + ")", x.both(6, 7, what), 0);
        }
        c.due("both(1, 0, 1)", x.both(1, 0, 1), 2);
        c.due("both(1, 0, 2)", x.both(1, 0, 2), 3);
        int[][] bad = {{0, 0, 0}, {7, 7, 1}, {-1, 0, 0}, {0, -1, 0}, {8, 0, 0}, {0, 8, 0}, {0, 1, -1}, {0, 1, 4},
            {MAX, 0, 0}, {0, MIN, 0}, {0, 1, MAX}, {0, 1, MIN}, {32, 1, 0}};
        for (int[] b : bad) {
            c.due("both BAD " + b[0] + " " + b[1] + " " + b[2], x.both(b[0], b[1], b[2]), BAD);
        }
    }

    private static void lots(DawnFair x, int times, int there, int bid) {
        for (int i = 0; i < times; i++) {
            x.lot(there, bid, bid == 0 ? NONE : Integer.numberOfTrailingZeros(bid));
        }
    }

    private static void chanceIs(String what, DawnFair x, int a, int b, long above, long below) {
        c.due(what + ", above", x.chance(a, b, 0), above);
        c.due(what + ", below", x.chance(a, b, 1), below);
        c.due(what + ", turned about, above", x.chance(b, a, 0), above);
        c.due(what + ", turned about, below", x.chance(b, a, 1), below);
    }

    private static void chance() {
        DawnFair x = new DawnFair();
        chanceIs("chance of no lots", x, 0, 1, 1, 1);
        lots(x, 2, 0b11, 0b01);
        lots(x, 2, 0b11, 0b10);
        chanceIs("chance of 4, 2, 2, 0", x, 0, 1, 1, 6);
        lots(x, 1, 0b11, 0b11);
        // of 10 ways in which 3 of 5 are chosen, with 0: none, with 1: 3 * 1
        chanceIs("chance of 5, 3, 3, 1", x, 0, 1, 3, 10);
        lots(x, 1, 0b11, 0b00);
        // of 20 ways, with 0: 1, with 1: 9
        chanceIs("chance of 6, 3, 3, 1", x, 0, 1, 1, 2);
        lots(x, 3, 0b101, 0b101);
        chanceIs("chance of all together", x, 0, 2, 1, 1);
        int[][] bad = {{0, 0, 0}, {-1, 0, 0}, {0, -1, 0}, {8, 0, 0}, {0, 8, 0}, {0, 1, -1}, {0, 1, 2}, {MAX, 0, 0},
            {0, MIN, 0}, {0, 1, MAX}, {0, 1, MIN}};
        for (int[] b : bad) {
            c.due("chance BAD " + b[0] + " " + b[1] + " " + b[2], x.chance(b[0], b[1], b[2]), BAD);
        }
    }

    private static void chanceOfForty() {
        DawnFair x = new DawnFair();
        lots(x, 20, 0b11, 0b01);
        lots(x, 20, 0b11, 0b10);
        chanceIs("chance of 40, 20, 20, 0", x, 0, 1, 1, 137846528820L);
        DawnFair y = new DawnFair();
        lots(y, 40, 0b11, 0b11);
        chanceIs("chance of 40, 40, 40, 40", y, 0, 1, 1, 1);
        DawnFair z = new DawnFair();
        lots(z, 19, 0b11, 0b01);
        lots(z, 19, 0b11, 0b10);
        lots(z, 1, 0b11, 0b11);
        lots(z, 1, 0b11, 0b00);
        // (1 + 20 * 20) of 137846528820 ways; 401 is a prime that does not divide them
        chanceIs("chance of 40, 20, 20, 1", z, 0, 1, 401, 137846528820L);
    }

    private static void shyest() {
        DawnFair x = new DawnFair();
        c.due("shyest of none", x.shyest(), 1);
        lots(x, 1, 0b11000000, 0b01000000);
        lots(x, 1, 0b11000000, 0b10000000);
        c.due("shyest are the last two", x.shyest(), 8 * 6 + 7);
        lots(x, 1, 0b00101000, 0b00001000);
        lots(x, 1, 0b00101000, 0b00100000);
        c.due("of like ones the first by a", x.shyest(), 8 * 3 + 5);
        lots(x, 1, 0b00011000, 0b00001000);
        lots(x, 1, 0b00011000, 0b00010000);
        c.due("of like ones the first by b", x.shyest(), 8 * 3 + 4);
        lots(x, 1, 0b11000000, 0b10000000);
        c.due("the least", x.shyest(), 8 * 6 + 7);
    }

    /** 40 lots with all there: cross products of the chances' parts pass a long. */
    private static void shyestOfCloseOnes() {
        for (int seed = 0; seed < 60; seed++) {
            Random random = new Random(seed);
            DawnFair x = new DawnFair();
            SlowFair y = new SlowFair();
            for (int i = 0; i < 40; i++) {
                int bid = 1 + random.nextInt(255);
                int won = Integer.numberOfTrailingZeros(bid);
                x.lot(255, bid, won);
                y.lot(255, bid, won);
            }
            c.due("shyest of close ones, seed " + seed, x.shyest(), y.shyest());
        }
    }

    private static void inside() {
        DawnFair x = new DawnFair();
        c.due("inside of two", x.inside(0b11, 10, 21, 0), 5);
        c.due("inside of two, the one", x.inside(0b11, 10, 21, 1), 6);
        c.due("inside of eight", x.inside(255, 0, 100000, 0), 12500);
        c.due("inside of eight, the one", x.inside(255, 0, 99999, 1), 12506);
        c.due("inside of seven, cut", x.inside(254, 3, 9, 0), 0);
        c.due("inside of seven, the one", x.inside(254, 3, 9, 1), 6);
        c.due("inside, nothing between", x.inside(129, 100000, 100000, 0), 0);
        c.due("inside, nothing between", x.inside(129, 100000, 100000, 1), 0);
        int[][] bad = {{0, 1, 2, 0}, {1, 1, 2, 0}, {128, 1, 2, 0}, {-1, 1, 2, 0}, {256, 1, 2, 0}, {257, 1, 2, 0},
            {3, -1, 2, 0}, {3, 0, 100001, 0}, {3, 100001, 100001, 0}, {3, 2, 1, 0}, {3, 1, 2, -1}, {3, 1, 2, 2},
            {MAX, 1, 2, 0}, {MIN, 1, 2, 0}, {3, MIN, 2, 0}, {3, MIN, MAX, 0}, {3, 0, MAX, 0}, {3, 0, MIN, 0},
            {3, 1, 2, MAX}, {3, 1, 2, MIN}};
        for (int[] b : bad) {
            c.due("inside BAD " + b[0] + " " + b[1] + " " + b[2] + " " + b[3],
                x.inside(b[0], b[1], b[2], b[3]), BAD);
        }
    }
}
