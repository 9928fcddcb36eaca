/** Promises 2 to 7: works, things. */
public final class WorksTest {
    private static final int BAD = Check.BAD, NONE = Check.NONE, FULL = Check.FULL, MIN = Check.MIN, MAX = Check.MAX;
    private static final Check c = new Check("WorksTest");

    public static void main(String[] args) {
        work();
        thing();
        part();
        span();
        apart();
        date();
        c.end();
    }

    private static void work() {
        DawnFair x = new DawnFair();
        long before = x.digest();
        int[][] bad = {{-1, 1600, 1950}, {10, 1600, 1950}, {0, 1599, 1950}, {0, 1600, 1951}, {0, 1701, 1700},
            {0, 1951, 1951}, {0, 1599, 1599}, {MAX, 1700, 1700}, {MIN, 1700, 1700}, {0, MIN, 1700}, {0, 1700, MAX},
            {0, MAX, MIN}};
        for (int[] b : bad) {
            c.due("work BAD " + b[0] + " " + b[1] + " " + b[2], x.work(b[0], b[1], b[2]), BAD);
        }
        c.due("refused work", x.digest(), before);
        c.due("work, all years", x.work(0, 1600, 1950), 1);
        c.due("work, as it was", x.digest(), before);
        c.due("work, one year", x.work(9, 1950, 1950), 1);
        c.due("work, one year", x.work(0, 1600, 1600), 1);
        x.thing(2);
        x.part(0, 0, 512);
        x.part(0, 1, 1);
        c.due("span of work 9", x.span(0, 0, 0), 1950);
        c.due("span of work 0", x.span(0, 1, 1), 1600);
        c.due("work again", x.work(9, 1700, 1710), 1);
        c.due("span of work 9 anew", x.span(0, 0, 0), 1700);
        c.due("span of work 9 anew", x.span(0, 0, 1), 1710);
    }

    private static void thing() {
        DawnFair x = new DawnFair();
        long before = x.digest();
        for (int bad : new int[] {0, -1, 6, MAX, MIN}) {
            c.due("thing BAD", x.thing(bad), BAD);
        }
        c.due("refused thing", x.digest(), before);
        for (int i = 0; i < 12; i++) {
            c.due("thing", x.thing(1 + i % 5), i);
            c.due("things", x.count(0), i + 1);
        }
        before = x.digest();
        c.due("thing FULL", x.thing(1), FULL);
        c.due("thing FULL", x.thing(5), FULL);
        c.due("thing BAD ahead of FULL", x.thing(6), BAD);
        c.due("refused thing", x.digest(), before);
        for (int i = 0; i < 12; i++) {
            c.due("last part", x.part(i, i % 5, 1), 0);
            c.due("part behind the last", x.part(i, i % 5 + 1, 1), BAD);
        }
    }

    private static void part() {
        DawnFair x = new DawnFair();
        x.thing(3);
        x.thing(5);
        c.due("part", x.part(0, 2, 1023), 0);
        c.due("part again", x.part(0, 2, 7), 1023);
        c.due("part emptied", x.part(0, 2, 0), 7);
        c.due("part as emptied", x.part(0, 2, 9), 0);
        c.due("another part", x.part(0, 1, 3), 0);
        c.due("another thing's part", x.part(1, 2, 5), 0);
        c.due("the first of the other's", x.part(1, 0, 5), 0);
        long before = x.digest();
        int[][] bad = {{-1, 0, 0}, {2, 0, 0}, {0, -1, 0}, {0, 3, 0}, {1, 5, 0}, {0, 0, -1}, {0, 0, 1024},
            {MAX, 0, 0}, {MIN, 0, 0}, {0, MAX, 0}, {0, MIN, 0}, {0, 0, MAX}, {0, 0, MIN}};
        for (int[] b : bad) {
            c.due("part BAD " + b[0] + " " + b[1] + " " + b[2], x.part(b[0], b[1], b[2]), BAD);
        }
        c.due("refused part", x.digest(), before);
    }

    private static void span() {
        DawnFair x = new DawnFair();
        x.work(0, 1700, 1760);
        x.work(1, 1740, 1800);
        x.work(2, 1760, 1900);
        x.work(3, 1761, 1900);
        x.thing(2);
        c.due("span without works", x.span(0, 0, 0), 1600);
        c.due("span without works", x.span(0, 0, 1), 1950);
        x.part(0, 0, 3);
        c.due("span of two", x.span(0, 0, 0), 1740);
        c.due("span of two", x.span(0, 0, 1), 1760);
        x.part(0, 0, 7);
        c.due("span of one year", x.span(0, 0, 0), 1760);
        c.due("span of one year", x.span(0, 0, 1), 1760);
        x.part(0, 0, 9);
        c.due("span of none", x.span(0, 0, 0), NONE);
        c.due("span of none", x.span(0, 0, 1), NONE);
        int[][] bad = {{-1, 0, 0}, {1, 0, 0}, {0, -1, 0}, {0, 2, 0}, {0, 0, -1}, {0, 0, 2}, {MAX, 0, 0}, {MIN, 0, 0},
            {0, MAX, 0}, {0, MIN, 0}, {0, 0, MAX}, {0, 0, MIN}};
        for (int[] b : bad) {
            c.due("span BAD " + b[0] + " " + b[1] + " " + b[2], x.span(b[0], b[1], b[2]), BAD);
        }
    }

    /** Works 0 .. 9 with years of ten each that do not meet: 1600 .. 1609 and so on by 20. */
    private static DawnFair pieceOf(int... works) {
        DawnFair x = new DawnFair();
        for (int w = 0; w < 10; w++) {
            x.work(w, 1600 + 20 * w, 1609 + 20 * w);
        }
        x.thing(works.length);
        for (int part = 0; part < works.length; part++) {
            x.part(0, part, works[part]);
        }
        return x;
    }

    private static void apart() {
        c.due("apart, one part", pieceOf(1).apart(0), 0);
        c.due("apart, one part without works", pieceOf(0).apart(0), 0);
        c.due("apart, one part without years", pieceOf(3).apart(0), NONE);
        c.due("apart, no part with years", pieceOf(3, 5, 6, 12, 24).apart(0), NONE);
        c.due("apart, of one time", pieceOf(1, 1, 0, 1, 1).apart(0), 0);
        c.due("apart, the least of like many", pieceOf(1, 2).apart(0), 1);
        c.due("apart, the least of like many", pieceOf(1, 2, 1, 2).apart(0), 5);
        c.due("apart, the least of like many", pieceOf(2, 1, 1, 2).apart(0), 6);
        c.due("apart, fewer ahead of less", pieceOf(1, 1, 1, 2).apart(0), 8);
        c.due("apart, fewer ahead of less", pieceOf(1, 2, 4, 4, 8).apart(0), 19);
        c.due("apart, all but the last", pieceOf(1, 2, 4, 8, 16).apart(0), 15);
        c.due("apart, all but one with years", pieceOf(3, 1, 3, 3, 3).apart(0), 29);
        c.due("apart, none without works", pieceOf(3, 0, 3).apart(0), 5);
        DawnFair full = new DawnFair();
        for (int i = 0; i < 12; i++) {
            full.thing(5);
            full.part(i, 0, 1 << i % 2);
        }
        full.work(0, 1600, 1700);
        full.work(1, 1701, 1800);
        for (int i = 0; i < 12; i++) {
            c.due("a thing beside others", full.apart(i), 0);
            c.due("a thing beside others", full.date(i, 1), i % 2 == 0 ? 1700 : 1800);
        }
        DawnFair x = pieceOf(1, 2);
        for (int bad : new int[] {-1, 1, 12, MAX, MIN}) {
            c.due("apart BAD", x.apart(bad), BAD);
        }
    }

    private static void date() {
        DawnFair x = pieceOf(1, 2, 2);
        c.due("date", x.date(0, 0), 1620);
        c.due("date", x.date(0, 1), 1629);
        x.work(2, 1625, 1950);
        x.part(0, 2, 4);
        c.due("apart", x.apart(0), 1);
        c.due("date of two", x.date(0, 0), 1625);
        c.due("date of two", x.date(0, 1), 1629);
        c.due("date without years", pieceOf(3, 5).date(0, 0), NONE);
        c.due("date without years", pieceOf(3, 5).date(0, 1), NONE);
        c.due("date without works", pieceOf(0, 0).date(0, 0), 1600);
        c.due("date without works", pieceOf(0, 0).date(0, 1), 1950);
        int[][] bad = {{-1, 0}, {1, 0}, {0, -1}, {0, 2}, {MAX, 0}, {MIN, 0}, {0, MAX}, {0, MIN}};
        for (int[] b : bad) {
            c.due("date BAD " + b[0] + " " + b[1], x.date(b[0], b[1]), BAD);
        }
        c.due("date BAD ahead of NONE", pieceOf(3, 5).date(0, 2), BAD);
    }
}
