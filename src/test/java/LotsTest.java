import java.util.Random;

/** Promises 16 to 20: lots, rings. */
public final class LotsTest {
    private static final int BAD = Check.BAD, NONE = Check.NONE, FULL = Check.FULL, MIN = Check.MIN, MAX = Check.MAX;
    private static final Check c = new Check("LotsTest");

    public static void main(String[] args) {
        lotNumbers();
        lotBits();
        lotBidOfOthers();
        lotWonByNoneOfThese();
        lotWithoutBids();
        lotsFull();
        lotBadAheadOfFull();
        bothCounts();
        bothWithoutLots();
        bothOfFortyLots();
        bothAlike();
        bothBad();
        chanceOfNoLots();
        chanceOfCOrFewer();
        chanceInLowestTerms();
        chanceOfFortyLots();
        chanceBad();
        shyestLeast();
        shyestOfLikeOnes();
        shyestNumbers();
        shyestOfCloseOnes();
        insideCut();
        insideOfTwoOrMore();
        insideNoLess();
        insideMoney();
        insideWhat();
        c.endOf(16, 20);
    }

    private static void lots(DawnFair x, int times, int there, int bid) {
        for (int i = 0; i < times; i++) {
            x.lot(there, bid, bid == 0 ? NONE : Integer.numberOfTrailingZeros(bid));
        }
    }

    private static Check.Call adding(DawnFair x) {
        return n -> x.lot(n[0], n[1], n[2]);
    }

    private static Check.Call sharing(DawnFair x) {
        return n -> x.inside(n[0], n[1], n[2], n[3]);
    }

    private static void lotNumbers() {
        c.promise(16, "A LOT: its number.");
        DawnFair x = new DawnFair();
        for (int i = 0; i < 5; i++) {
            c.due("lot", x.lot(7, 6, 1 + i % 2), i);
            c.due("lots", x.count(3), i + 1);
        }
    }

    private static void lotBits() {
        c.promise(16, "BAD: bits 0 .. 255");
        DawnFair x = new DawnFair();
        c.refused(x, adding(x), BAD, Check.told(255, 0, NONE), 0, -1, 256, 511, MIN, MAX);
        c.refused(x, adding(x), BAD, Check.told(255, 1, 0), 0, -1, 256, 511, MIN, MAX);
        c.refused(x, adding(x), BAD, Check.told(255, 1, 0), 1, -1, 256, 257, MIN, MAX);
        c.due("bid beyond, there too", x.lot(511, 256, 8), BAD);
        c.due("bid below, there too", x.lot(-1, -1, 0), BAD);
        c.due("the least", x.lot(0, 0, NONE), 0);
        c.due("the greatest", x.lot(255, 255, 7), 1);
    }

    private static void lotBidOfOthers() {
        c.promise(16, "bid of others than there");
        DawnFair x = new DawnFair();
        c.refused(x, adding(x), BAD, Check.told(3, 1, 0), 1, 5, 7, 129, 255);
        c.due("bid of none there", x.lot(3, 4, 2), BAD);
        c.due("nobody was there", x.lot(0, 1, 0), BAD);
        c.due("bid of all there", x.lot(3, 3, 0), 0);
    }

    private static void lotWonByNoneOfThese() {
        c.promise(16, "won by none of these");
        DawnFair x = new DawnFair();
        c.refused(x, adding(x), BAD, Check.told(7, 5, 0), 2, 1, 3, 7, 8, 32, 34, NONE, -2, -32, MIN, MAX);
        c.due("by the first that bid", x.lot(7, 5, 0), 0);
        c.due("by the last that bid", x.lot(7, 5, 2), 1);
        c.due("by the last of all", x.lot(255, 128, 7), 2);
    }

    private static void lotWithoutBids() {
        c.promise(16, "(NONE if none bid)");
        DawnFair x = new DawnFair();
        c.refused(x, adding(x), BAD, Check.told(255, 0, NONE), 2, 0, 1, 7, 8, -2, MIN, MAX);
        c.due("won by none", x.lot(255, 0, NONE), 0);
        c.due("one bid, won by none", x.lot(255, 1, NONE), BAD);
    }

    private static void lotsFull() {
        c.promise(16, "FULL: 40.");
        DawnFair x = new DawnFair();
        for (int i = 0; i < 40; i++) {
            c.due("lot", x.lot(3, 2, 1), i);
        }
        c.refused(x, adding(x), FULL, Check.told(3, 2, 1), 0, 2, 3, 255);
        c.due("lots", x.count(3), 40);
        c.due("lots of both", x.both(0, 1, 0), 40);
    }

    private static void lotBadAheadOfFull() {
        c.promise(16, "Refused, changing nothing, the first of: BAD -2");
        DawnFair x = new DawnFair();
        lots(x, 40, 3, 2);
        c.due("bits", x.lot(256, 0, NONE), BAD);
        c.due("bid of others", x.lot(3, 4, 2), BAD);
        c.due("won by another", x.lot(3, 2, 0), BAD);
        c.due("as told", x.lot(3, 2, 1), FULL);
    }

    private static void bothCounts() {
        c.promise(17, "Of two DEALERS: 0 n, 1 A, 2 B, 3 C.");
        DawnFair x = new DawnFair();
        x.lot(0b0011, 0b0001, 0);
        x.lot(0b0011, 0b0011, 1);
        x.lot(0b0111, 0b0101, 2);
        x.lot(0b0111, 0b0110, 1);
        x.lot(0b0111, 0, NONE);
        x.lot(0b0001, 0b0001, 0);
        x.lot(0b0110, 0b0010, 1);
        int[][] want = {{5, 3, 2, 1}, {5, 2, 3, 1}, {3, 1, 2, 1}};
        for (int what = 0; what < 4; what++) {
            c.due("both(0, 1, " + what + ")", x.both(0, 1, what), want[0][what]);
            c.due("both(1, 0, " + what + ")", x.both(1, 0, what), want[1][what]);
            c.due("both(0, 2, " + what + ")", x.both(0, 2, what), want[2][what]);
        }
    }

    private static void bothWithoutLots() {
        c.promise(17, "n LOTS at which both were, at A of which a bid, at B b, at C both.");
        DawnFair x = new DawnFair();
        for (int what = 0; what < 4; what++) {
            c.due("no lots", x.both(0, 7, what), 0);
        }
        lots(x, 2, 0b00000001, 0b00000001);
        lots(x, 2, 0b10000000, 0b10000000);
        for (int what = 0; what < 4; what++) {
            c.due("never both there", x.both(0, 7, what), 0);
        }
    }

    private static void bothOfFortyLots() {
        c.promise(17, "LOTS, 40 at most");
        DawnFair x = new DawnFair();
        lots(x, 40, 255, 255);
        for (int what = 0; what < 4; what++) {
            c.due("all of forty", x.both(7, 0, what), 40);
        }
    }

    private static void bothAlike() {
        c.promise(17, "BAD: also alike.");
        DawnFair x = new DawnFair();
        lots(x, 2, 255, 255);
        for (int a = 0; a < 8; a++) {
            c.due("both of one", x.both(a, a, 0), BAD);
            c.due("both of one", x.both(a, a, 3), BAD);
        }
    }

    private static void bothBad() {
        c.promise(17, "DEALERS 0 .. 7.");
        DawnFair x = new DawnFair();
        lots(x, 2, 255, 255);
        c.refused(x, n -> x.both(n[0], n[1], n[2]), BAD, Check.told(0, 7, 0), 0, -1, 8, 32, MIN, MAX);
        c.refused(x, n -> x.both(n[0], n[1], n[2]), BAD, Check.told(0, 7, 0), 1, -1, 8, 33, MIN, MAX);
        c.refused(x, n -> x.both(n[0], n[1], n[2]), BAD, Check.told(0, 7, 0), 2, -1, 4, MIN, MAX);
        c.due("both are not as told and alike", x.both(8, 8, 0), BAD);
    }

    private static void chanceIs(String what, DawnFair x, int a, int b, long above, long below) {
        c.due(what + ", above", x.chance(a, b, 0), above);
        c.due(what + ", below", x.chance(a, b, 1), below);
        c.due(what + ", turned about, above", x.chance(b, a, 0), above);
        c.due(what + ", turned about, below", x.chance(b, a, 1), below);
    }

    private static void chanceOfNoLots() {
        c.promise(18, "(1 by 1, if n is 0)");
        DawnFair x = new DawnFair();
        chanceIs("no lots", x, 0, 1, 1, 1);
        lots(x, 3, 0b01, 0b01);
        lots(x, 3, 0b10, 0b10);
        chanceIs("never both there", x, 0, 1, 1, 1);
        lots(x, 1, 0b100, 0);
        chanceIs("lots without bids", x, 2, 3, 1, 1);
    }

    private static void chanceOfCOrFewer() {
        c.promise(18, "of all ways in which B of n may be chosen, those with C or fewer of the A");
        DawnFair x = new DawnFair();
        lots(x, 1, 0b11, 0b00);
        chanceIs("1, 0, 0, 0", x, 0, 1, 1, 1);
        lots(x, 2, 0b11, 0b01);
        chanceIs("3, 2, 0, 0", x, 0, 1, 1, 1);
        lots(x, 2, 0b11, 0b10);
        // of 10 ways in which 2 of 5 are chosen, 3 have none of the 2
        chanceIs("5, 2, 2, 0", x, 0, 1, 3, 10);
        lots(x, 1, 0b11, 0b11);
        // of 20 ways in which 3 of 6 are chosen, 1 has none of the 3, and 9 have one
        chanceIs("6, 3, 3, 1", x, 0, 1, 1, 2);
        DawnFair y = new DawnFair();
        lots(y, 2, 0b11, 0b01);
        lots(y, 2, 0b11, 0b10);
        lots(y, 1, 0b11, 0b11);
        // of 10 ways in which 3 of 5 are chosen, none is without the 3, and 3 have one
        chanceIs("5, 3, 3, 1", y, 0, 1, 3, 10);
    }

    private static void chanceInLowestTerms() {
        c.promise(18, "in lowest terms");
        DawnFair x = new DawnFair();
        lots(x, 1, 0b11, 0b01);
        lots(x, 1, 0b11, 0b10);
        lots(x, 1, 0b11, 0b00);
        lots(x, 1, 0b11, 0b00);
        // 3 of 4
        chanceIs("already lowest", x, 0, 1, 3, 4);
        lots(x, 1, 0b11, 0b01);
        lots(x, 1, 0b11, 0b01);
        // 6 ways to choose one, 3 of them outside the three
        chanceIs("3 of 6", x, 0, 1, 1, 2);
        DawnFair y = new DawnFair();
        lots(y, 3, 0b11, 0b11);
        chanceIs("all ways", y, 0, 1, 1, 1);
        lots(y, 3, 0b11, 0b00);
        chanceIs("20 of 20", y, 0, 1, 1, 1);
    }

    private static void chanceOfFortyLots() {
        c.promise(18, "LOTS, 40 at most");
        DawnFair x = new DawnFair();
        lots(x, 20, 0b11, 0b01);
        lots(x, 20, 0b11, 0b10);
        chanceIs("40, 20, 20, 0", x, 0, 1, 1, 137846528820L);
        DawnFair y = new DawnFair();
        lots(y, 40, 0b11, 0b11);
        chanceIs("40, 40, 40, 40", y, 0, 1, 1, 1);
        DawnFair z = new DawnFair();
        lots(z, 19, 0b11, 0b01);
        lots(z, 19, 0b11, 0b10);
        lots(z, 1, 0b11, 0b11);
        lots(z, 1, 0b11, 0b00);
        // (1 + 20 * 20) ways; 401 is a prime that does not divide all ways
        chanceIs("40, 20, 20, 1", z, 0, 1, 401, 137846528820L);
        DawnFair all = new DawnFair();
        lots(all, 40, 0b11, 0b01);
        chanceIs("40, 40, 0, 0", all, 0, 1, 1, 1);
    }

    private static void chanceBad() {
        c.promise(18, "BAD: -2.");
        DawnFair x = new DawnFair();
        lots(x, 2, 255, 1);
        c.refused(x, n -> x.chance(n[0], n[1], n[2]), -2, Check.told(0, 7, 0), 0, -1, 7, 8, 32, MIN, MAX);
        c.refused(x, n -> x.chance(n[0], n[1], n[2]), -2, Check.told(0, 7, 0), 1, -1, 0, 8, 33, MIN, MAX);
        c.refused(x, n -> x.chance(n[0], n[1], n[2]), -2, Check.told(0, 7, 0), 2, -1, 2, MIN, MAX);
    }

    private static void shyestLeast() {
        c.promise(19, "THE SHYEST two: the least THE CHANCE");
        DawnFair x = new DawnFair();
        lots(x, 1, 0b00000011, 0b01);
        lots(x, 1, 0b00000011, 0b10);
        c.due("the only two", x.shyest(), 1);
        lots(x, 1, 0b00110000, 0b00010000);
        lots(x, 2, 0b00110000, 0b00100000);
        // a third is below a half
        c.due("a lesser one behind", x.shyest(), 8 * 4 + 5);
        lots(x, 1, 0b00000011, 0b01);
        lots(x, 1, 0b00000011, 0b10);
        // a sixth is below a third
        c.due("a lesser one ahead", x.shyest(), 1);
        DawnFair y = new DawnFair();
        lots(y, 9, 0b00000011, 0b01);
        lots(y, 9, 0b00000011, 0b10);
        lots(y, 1, 0b00000011, 0b11);
        lots(y, 1, 0b00000011, 0b00);
        lots(y, 10, 0b11000000, 0b01000000);
        lots(y, 10, 0b11000000, 0b10000000);
        // 101 of 184756 against 1 of as many
        c.due("the last two by great numbers", y.shyest(), 8 * 6 + 7);
        DawnFair z = new DawnFair();
        lots(z, 10, 0b00000011, 0b10);
        lots(z, 10, 0b00000011, 0b00);
        lots(z, 1, 0b00001100, 0b0100);
        lots(z, 1, 0b00001100, 0b1000);
        c.due("one that never bids is not shy of another", z.shyest(), 8 * 2 + 3);
    }

    private static void shyestOfLikeOnes() {
        c.promise(19, "of like ones the first by a, then b (a below b)");
        DawnFair x = new DawnFair();
        c.due("no lots, all are alike", x.shyest(), 1);
        lots(x, 1, 0b11000000, 0b01000000);
        lots(x, 1, 0b11000000, 0b10000000);
        c.due("one below the others", x.shyest(), 8 * 6 + 7);
        lots(x, 1, 0b00101000, 0b00001000);
        lots(x, 1, 0b00101000, 0b00100000);
        c.due("the first by a", x.shyest(), 8 * 3 + 5);
        lots(x, 1, 0b00011000, 0b00001000);
        lots(x, 1, 0b00011000, 0b00010000);
        c.due("the first by b", x.shyest(), 8 * 3 + 4);
        lots(x, 1, 0b01000100, 0b00000100);
        lots(x, 1, 0b01000100, 0b01000000);
        c.due("by a, though b is behind", x.shyest(), 8 * 2 + 6);
        DawnFair y = new DawnFair();
        lots(y, 1, 0b00000011, 0b01);
        lots(y, 1, 0b00000011, 0b10);
        lots(y, 2, 0b00001100, 0b0100);
        lots(y, 2, 0b00001100, 0b1000);
        lots(y, 1, 0b00001100, 0b1100);
        lots(y, 5, 0b00001100, 0b0000);
        // 1 of 2 against more than a half
        c.due("a half is the least", y.shyest(), 1);
    }

    private static void shyestNumbers() {
        c.promise(19, "8 a and b.");
        for (int a = 0; a < 8; a++) {
            for (int b = a + 1; b < 8; b++) {
                DawnFair x = new DawnFair();
                lots(x, 1, 1 << a | 1 << b, 1 << a);
                lots(x, 1, 1 << a | 1 << b, 1 << b);
                c.due("of " + a + " and " + b, x.shyest(), 8 * a + b);
            }
        }
    }

    /** 40 lots with all there: cross products of the chances' parts pass a long. */
    private static void shyestOfCloseOnes() {
        c.promise(19, "LOTS, 40 at most");
        for (int seed = 0; seed < 60; seed++) {
            Random random = new Random(seed);
            DawnFair x = new DawnFair();
            SlowFair y = new SlowFair();
            for (int i = 0; i < 40; i++) {
                int bid = 1 + random.nextInt(255);
                int won = Integer.numberOfTrailingZeros(bid);
                x.lot(255, bid, won);
                y.lot(255, bid, won);
            }
            c.due("seed " + seed, x.shyest(), y.shyest());
        }
    }

    private static void insideIs(String what, int ring, int p, int q, int each, int rest) {
        DawnFair x = new DawnFair();
        c.due(what + ", each", x.inside(ring, p, q, 0), each);
        c.due(what + ", the one", x.inside(ring, p, q, 1), rest);
    }

    private static void insideCut() {
        c.promise(20, "what is between them by how many they are, cut, is each one's; the rest is his who has it.");
        insideIs("of two, even", 0b11, 10, 20, 5, 5);
        insideIs("of two, odd", 0b11, 10, 21, 5, 6);
        insideIs("of three", 0b10101, 0, 5, 1, 3);
        insideIs("of eight, less than one each", 255, 3, 10, 0, 7);
        insideIs("of eight, one each", 255, 3, 11, 1, 1);
        insideIs("of eight, one each and more", 255, 3, 18, 1, 8);
        insideIs("of eight, the most", 255, 0, 100000, 12500, 12500);
        insideIs("of eight, nearly the most", 255, 0, 99999, 12499, 12506);
    }

    private static void insideOfTwoOrMore() {
        c.promise(20, "BAD: also fewer than two");
        DawnFair x = new DawnFair();
        c.refused(x, sharing(x), BAD, Check.told(3, 1, 9, 0), 0,
            0, 1, 2, 64, 128, -1, -2, 256, 257, 259, MIN, MAX);
        insideIs("the least two", 3, 1, 9, 4, 4);
        insideIs("the greatest two", 192, 1, 9, 4, 4);
        insideIs("all", 255, 1, 9, 1, 1);
    }

    private static void insideNoLess() {
        c.promise(20, "q below p");
        DawnFair x = new DawnFair();
        c.refused(x, sharing(x), BAD, Check.told(3, 5, 5, 0), 1, 6, 100000);
        c.refused(x, sharing(x), BAD, Check.told(3, 5, 5, 1), 2, 4, 0);
        insideIs("q is p", 3, 5, 5, 0, 0);
        insideIs("q is one above p", 3, 5, 6, 0, 1);
    }

    private static void insideMoney() {
        c.promise(20, "p, q 0 .. 100000");
        DawnFair x = new DawnFair();
        c.refused(x, sharing(x), BAD, Check.told(3, 0, 100000, 0), 1, -1, 100001, MIN, MAX);
        c.refused(x, sharing(x), BAD, Check.told(3, 0, 100000, 0), 2, -1, 100001, MIN, MAX);
        c.due("both above", x.inside(3, 100001, 100001, 0), BAD);
        c.due("both below", x.inside(3, -1, -1, 0), BAD);
        insideIs("both the least", 3, 0, 0, 0, 0);
        insideIs("both the greatest", 3, 100000, 100000, 0, 0);
        insideIs("the least and the greatest", 3, 0, 100000, 50000, 50000);
    }

    private static void insideWhat() {
        c.promise(20, "What each of a RING but the one has INSIDE (0), and what is left for that one besides what the LOT costs it (1).");
        DawnFair x = new DawnFair();
        c.refused(x, sharing(x), BAD, Check.told(3, 1, 9, 0), 3, -1, 2, MIN, MAX);
        insideIs("of seven", 254, 100, 199, 14, 15);
    }
}
