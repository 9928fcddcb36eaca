/** Promises 21 to 30: lists, debts. */
public final class ListsTest {
    private static final int BAD = Check.BAD, NONE = Check.NONE, NO = Check.NO, FULL = Check.FULL;
    private static final int BAD_SUM = Check.BAD_SUM, BAD_SCORE = Check.BAD_SCORE, MIN = Check.MIN, MAX = Check.MAX;
    private static final Check c = new Check("ListsTest");

    public static void main(String[] args) {
        entry();
        mark();
        score();
        joinedInOrder();
        joinedByGreatestSum();
        joinedNeverByNothing();
        joinedRefused();
        oweAndNet();
        fall();
        count();
        digest();
        c.end();
    }

    private static void see(DawnFair x, int thing, int marks) {
        for (int mark = 0; mark < 12; mark++) {
            x.mark(thing, mark, marks >> mark & 1);
        }
    }

    private static void entry() {
        DawnFair x = new DawnFair();
        long before = x.digest();
        for (int bad : new int[] {-1, 4096, MAX, MIN}) {
            c.due("entry BAD", x.entry(bad), BAD);
        }
        c.due("refused entry", x.digest(), before);
        for (int i = 0; i < 10; i++) {
            c.due("entry", x.entry(i == 0 ? 0 : 4095), i);
        }
        before = x.digest();
        c.due("entry FULL", x.entry(1), FULL);
        c.due("entry BAD ahead of FULL", x.entry(4096), BAD);
        c.due("entries", x.count(4), 10);
        c.due("refused entry", x.digest(), before);
    }

    private static void mark() {
        DawnFair x = Check.withThings(2);
        c.due("mark seen", x.mark(0, 11, 1), 0);
        c.due("mark lacked", x.mark(0, 11, 2), 1);
        c.due("mark seen again", x.mark(0, 11, 1), 2);
        c.due("mark unknown", x.mark(0, 11, 0), 1);
        c.due("mark as unknown", x.mark(0, 11, 2), 0);
        c.due("mark unknown", x.mark(0, 11, 0), 2);
        c.due("another mark", x.mark(0, 0, 2), 0);
        c.due("another thing's mark", x.mark(1, 0, 1), 0);
        long before = x.digest();
        int[][] bad = {{-1, 0, 0}, {2, 0, 0}, {0, -1, 0}, {0, 12, 0}, {0, 0, -1}, {0, 0, 3}, {MAX, 0, 0}, {MIN, 0, 0},
            {0, MAX, 0}, {0, MIN, 0}, {0, 0, MAX}, {0, 0, MIN}, {0, 32, 0}};
        for (int[] b : bad) {
            c.due("mark BAD " + b[0] + " " + b[1] + " " + b[2], x.mark(b[0], b[1], b[2]), BAD);
        }
        c.due("refused mark", x.digest(), before);
    }

    private static void score() {
        DawnFair x = Check.withThings(2);
        x.entry(0b0111);
        x.entry(0);
        c.due("score of nothing", x.score(0, 0), 0);
        x.mark(0, 0, 1);
        c.due("score of one seen", x.score(0, 0), 2);
        x.mark(0, 1, 2);
        c.due("score with one lacked", x.score(0, 0), -1);
        x.mark(0, 3, 1);
        c.due("score with one not its own", x.score(0, 0), -2);
        x.mark(0, 4, 2);
        c.due("lacked and not its own", x.score(0, 0), -2);
        c.due("score without marks", x.score(1, 0), -2);
        x.mark(0, 1, 1);
        c.due("the later one counts", x.score(0, 0), 3);
        c.due("score of another", x.score(0, 1), 0);
        int[][] bad = {{-1, 0}, {2, 0}, {0, -1}, {0, 2}, {MAX, 0}, {MIN, 0}, {0, MAX}, {0, MIN}};
        for (int[] b : bad) {
            c.due("score BAD " + b[0] + " " + b[1], x.score(b[0], b[1]), BAD_SCORE);
        }
        for (int mark = 0; mark < 12; mark++) {
            x.mark(1, mark, 2);
        }
        x.entry(4095);
        c.due("the least score", x.score(2, 1), -36);
        see(x, 1, 4095);
        c.due("the greatest score", x.score(2, 1), 24);
    }

    private static void joinedIs(String what, DawnFair x, int sum, int... things) {
        c.due(what + ": sum", x.joined(), sum);
        for (int entry = 0; entry < things.length; entry++) {
            c.due(what + ": joinedTo(" + entry + ")", x.joinedTo(entry), things[entry]);
        }
    }

    private static void joinedInOrder() {
        DawnFair x = Check.withThings(12);
        for (int i = 0; i < 6; i++) {
            x.entry(1);
        }
        joinedIs("none seen", x, 0, NONE, NONE, NONE, NONE, NONE, NONE);
        see(x, 11, 1);
        joinedIs("one seen goes to the first", x, 2, 11, NONE, NONE, NONE, NONE, NONE);
        see(x, 4, 1);
        joinedIs("the first has the first", x, 4, 4, 11, NONE, NONE, NONE, NONE);
        for (int i = 0; i < 12; i++) {
            see(x, i, 1);
        }
        joinedIs("all alike", x, 12, 0, 1, 2, 3, 4, 5);
    }

    private static void joinedByGreatestSum() {
        DawnFair x = Check.withThings(2);
        x.entry(0b0011);
        x.entry(0b1111);
        see(x, 0, 0b1011);
        see(x, 1, 0b0011);
        // scores: entry 0: 3 and 4, entry 1: 6 and 4
        joinedIs("the greatest sum", x, 10, 1, 0);
        DawnFair y = Check.withThings(1);
        y.entry(0b0011);
        y.entry(0b0111);
        see(y, 0, 0b0111);
        joinedIs("the better one, though it is behind", y, 6, NONE, 0);
        DawnFair z = Check.withThings(12);
        for (int i = 0; i < 6; i++) {
            z.entry(4095);
        }
        for (int i = 6; i < 12; i++) {
            see(z, i, 4095);
        }
        joinedIs("the greatest of all sums", z, 144, 6, 7, 8, 9, 10, 11);
    }

    private static void joinedNeverByNothing() {
        DawnFair x = Check.withThings(2);
        x.entry(0b0001);
        x.entry(0b0010);
        see(x, 0, 0b1101);
        see(x, 1, 0b1110);
        c.due("a score of 0", x.score(0, 0), 0);
        joinedIs("a score of 0 does not join", x, 0, NONE, NONE);
        see(x, 1, 0b0110);
        joinedIs("a score of 1 joins", x, 1, NONE, 1);
    }

    private static void joinedRefused() {
        DawnFair x = Check.withThings(1);
        c.due("joinedTo BAD", x.joinedTo(0), BAD);
        see(x, 0, 1);
        for (int i = 0; i < 6; i++) {
            x.entry(1);
        }
        c.due("joined of six", x.joined(), 2);
        c.due("joinedTo of six", x.joinedTo(5), NONE);
        for (int bad : new int[] {-1, 6, MAX, MIN}) {
            c.due("joinedTo BAD", x.joinedTo(bad), BAD);
        }
        x.entry(1);
        c.due("joined NO", x.joined(), NO);
        c.due("joinedTo NO", x.joinedTo(0), NO);
        c.due("joinedTo NO", x.joinedTo(6), NO);
        c.due("joinedTo BAD ahead of NO", x.joinedTo(7), BAD);
        c.due("joinedTo BAD ahead of NO", x.joinedTo(-1), BAD);
    }

    private static void oweAndNet() {
        DawnFair x = new DawnFair();
        c.due("owe", x.owe(0, 7, 10000), 0);
        c.due("owe anew", x.owe(0, 7, 30), 10000);
        c.due("owe the other way", x.owe(7, 0, 50), 0);
        c.due("owe another", x.owe(0, 1, 5), 0);
        c.due("net(0)", x.net(0), 15);
        c.due("net(7)", x.net(7), -20);
        c.due("net(1)", x.net(1), 5);
        c.due("net(2)", x.net(2), 0);
        c.due("debts", x.count(6), 85);
        long before = x.digest();
        int[][] bad = {{0, 0, 1}, {7, 7, 1}, {-1, 0, 1}, {8, 0, 1}, {0, -1, 1}, {0, 8, 1}, {0, 1, -1}, {0, 1, 10001},
            {MAX, 0, 1}, {MIN, 0, 1}, {0, MAX, 1}, {0, MIN, 1}, {0, 1, MAX}, {0, 1, MIN}};
        for (int[] b : bad) {
            c.due("owe BAD " + b[0] + " " + b[1] + " " + b[2], x.owe(b[0], b[1], b[2]), BAD);
        }
        c.due("refused owe", x.digest(), before);
        for (int b : new int[] {-1, 8, MAX, MIN}) {
            c.due("net BAD", x.net(b), BAD_SUM);
        }
        c.due("paid", x.owe(7, 0, 0), 50);
        c.due("net after it is paid", x.net(0), -35);
    }

    private static void fall() {
        DawnFair x = new DawnFair();
        for (int i = 0; i < 7; i++) {
            x.owe(i, i + 1, 100);
        }
        c.due("all fall in a row", x.fall(0, 0), 127);
        c.due("below by one", x.fall(0, 99), 127);
        c.due("not below", x.fall(0, 100), 1);
        c.due("one that owes without being owed falls as well", x.fall(7, 0), 255);
        c.due("with money enough", x.fall(7, 100), 128);
        DawnFair y = new DawnFair();
        y.owe(0, 1, 60);
        y.owe(1, 0, 100);
        y.owe(1, 2, 100);
        y.owe(2, 3, 80);
        c.due("what it owes to one that fell is still owed", y.fall(0, 150), 3);
        c.due("so the next falls too", y.fall(0, 79), 7);
        c.due("it pays nothing", y.fall(3, 200), 8);
        DawnFair z = new DawnFair();
        z.owe(0, 1, 10);
        z.owe(1, 2, 10);
        z.owe(2, 1, 5);
        z.owe(2, 3, 5);
        c.due("one that falls in the second round", z.fall(0, 4), 7);
        c.due("none in the first round", z.fall(0, 5), 1);
        int[][] bad = {{-1, 0}, {8, 0}, {0, -1}, {0, 100001}, {MAX, 0}, {MIN, 0}, {0, MAX}, {0, MIN}};
        for (int[] b : bad) {
            c.due("fall BAD " + b[0] + " " + b[1], z.fall(b[0], b[1]), BAD);
        }
        c.due("the most money", z.fall(0, 100000), 1);
    }

    private static void count() {
        DawnFair x = filled();
        int[] want = {2, 2, 1, 2, 2, 5, 12};
        for (int what = 0; what < 7; what++) {
            c.due("count(" + what + ")", x.count(what), want[what]);
        }
        for (int bad : new int[] {-1, 7, MAX, MIN}) {
            c.due("count BAD", x.count(bad), BAD);
        }
    }

    private static DawnFair filled() {
        DawnFair x = new DawnFair();
        x.work(3, 1700, 1800);
        x.thing(2);
        x.thing(1);
        x.part(0, 1, 9);
        x.hold(0, 4);
        x.sell(0, 5, 70, 0);
        x.hours(1);
        x.sell(0, 6, 90, 33);
        x.back(0);
        x.lot(7, 3, 1);
        x.lot(9, 0, NONE);
        x.entry(5);
        x.entry(4095);
        x.mark(0, 2, 1);
        x.mark(1, 3, 2);
        x.owe(0, 1, 5);
        x.owe(1, 2, 7);
        return x;
    }

    private static void digest() {
        long[] values = {
            2, 2, 1, 2, 2, 5, 12,
            1600, 1950, 1600, 1950, 1600, 1950, 1700, 1800, 1600, 1950,
            1600, 1950, 1600, 1950, 1600, 1950, 1600, 1950, 1600, 1950,
            2, 0, 9, 5, 4, 0,
            1, 0, -1, 0, 8,
            0, 4, 5, 70, 4, 0, 1,
            0, 5, 6, 90, 5, 33, 0,
            7, 3, 1, 9, 0, -1,
            5, 4095,
            0, -5, 0, -2, 0, 7, 0, 0, 70, 0, -70, 0, 0, 0, 0, 0};
        long h = 239;
        for (long v : values) {
            h = 31 * h + v;
        }
        DawnFair x = filled();
        c.due("digest", x.digest(), h);
        c.due("digest again", x.digest(), h);
    }
}
