/** Promises 2 to 7: works, things. */
public final class WorksTest {
    private static final int BAD = Check.BAD, NONE = Check.NONE, FULL = Check.FULL, MIN = Check.MIN, MAX = Check.MAX;
    private static final Check c = new Check("WorksTest");

    public static void main(String[] args) {
        workIsSet();
        workNumber();
        workYears();
        workFromAboveTo();
        thingsAsTheyCome();
        thingParts();
        thingsFull();
        thingBadAheadOfFull();
        partAnswersWhatWorksWere();
        partWorks();
        partThatIsNotThere();
        spanOfWorks();
        spanWithoutWorks();
        spanOfNoYear();
        spanWhat();
        spanOfWhatIsNotThere();
        apartFewest();
        apartOneAtLeast();
        apartLeastNumber();
        apartOfOneTime();
        apartNone();
        apartBad();
        dateOfTheOthers();
        dateNone();
        dateBad();
        c.endOf(2, 7);
    }

    /** One thing whose parts have these works; works 0 .. 9 have ten years each that never meet. */
    private static DawnFair pieceOf(int... works) {
        DawnFair x = new DawnFair();
        for (int w = 0; w < 10; w++) {
            x.work(w, 1600 + 20 * w, 1609 + 20 * w);
        }
        x.thing(works.length);
        for (int part = 0; part < works.length; part++) {
            x.part(0, part, works[part]);
        }
        return x;
    }

    private static void spanIs(String what, DawnFair x, int part, int first, int last) {
        c.due(what + ", the first year", x.span(0, part, 0), first);
        c.due(what + ", the last year", x.span(0, part, 1), last);
    }

    private static void dateIs(String what, DawnFair x, int first, int last) {
        c.due(what + ", the first year", x.date(0, 0), first);
        c.due(what + ", the last year", x.date(0, 1), last);
    }

    private static Check.Call dating(DawnFair x) {
        return n -> x.work(n[0], n[1], n[2]);
    }

    private static Check.Call building(DawnFair x) {
        return n -> x.part(n[0], n[1], n[2]);
    }

    private static void workIsSet() {
        c.promise(2, "Years of a WORK: 1.");
        DawnFair x = pieceOf(512);
        c.due("work", x.work(9, 1700, 1710), 1);
        spanIs("the part that has it", x, 0, 1700, 1710);
        c.due("work again, wider", x.work(9, 1650, 1900), 1);
        spanIs("the later years count alone", x, 0, 1650, 1900);
        c.due("another work", x.work(8, 1800, 1800), 1);
        spanIs("a part without that work", x, 0, 1650, 1900);
    }

    private static void workNumber() {
        c.promise(2, "9 have years from .. to");
        DawnFair x = new DawnFair();
        c.refused(x, dating(x), BAD, Check.told(0, 1700, 1710), 0, -1, 10, 31, 32, MIN, MAX);
        c.due("the first work", x.work(0, 1700, 1710), 1);
        c.due("the last work", x.work(9, 1720, 1730), 1);
        x.thing(2);
        x.part(0, 0, 1);
        x.part(0, 1, 512);
        spanIs("the first work", x, 0, 1700, 1710);
        spanIs("the last work", x, 1, 1720, 1730);
    }

    private static void workYears() {
        c.promise(2, "(1600 .. 1950; all of these at first)");
        DawnFair x = new DawnFair();
        c.refused(x, dating(x), BAD, Check.told(3, 1600, 1950), 1, 1599, 1951, 0, -1, MIN, MAX);
        c.refused(x, dating(x), BAD, Check.told(3, 1600, 1950), 2, 1599, 1951, 0, -1, MIN, MAX);
        c.due("both below", x.work(3, 1599, 1599), BAD);
        c.due("both above", x.work(3, 1951, 1951), BAD);
        long before = x.digest();
        c.due("all years", x.work(3, 1600, 1950), 1);
        c.due("as it was at first", x.digest(), before);
        c.due("the first year alone", x.work(3, 1600, 1600), 1);
        x.thing(1);
        x.part(0, 0, 8);
        spanIs("the first year alone", x, 0, 1600, 1600);
        c.due("the last year alone", x.work(3, 1950, 1950), 1);
        spanIs("the last year alone", x, 0, 1950, 1950);
    }

    private static void workFromAboveTo() {
        c.promise(2, "BAD: also from above to.");
        DawnFair x = pieceOf(1);
        c.refused(x, dating(x), BAD, Check.told(0, 1700, 1700), 1, 1701, 1950);
        c.refused(x, dating(x), BAD, Check.told(0, 1700, 1700), 2, 1699, 1600);
        spanIs("it keeps its years", x, 0, 1600, 1609);
        c.due("from is to", x.work(0, 1700, 1700), 1);
        spanIs("one year", x, 0, 1700, 1700);
    }

    private static void thingsAsTheyCome() {
        c.promise(3, "THINGS 0 .. 11, as they come");
        DawnFair x = new DawnFair();
        for (int i = 0; i < 12; i++) {
            c.due("not yet come", x.apart(i), BAD);
            c.due("thing", x.thing(1 + i % 5), i);
            c.due("things", x.count(0), i + 1);
            c.due("come", x.apart(i), 0);
        }
    }

    private static void thingParts() {
        c.promise(3, "have 1 .. 5 PARTS");
        DawnFair x = new DawnFair();
        c.refused(x, n -> x.thing(n[0]), BAD, Check.told(1), 0, 0, -1, 6, MIN, MAX);
        for (int parts = 1; parts <= 5; parts++) {
            int thing = x.thing(parts);
            c.due("thing after refused ones", thing, parts - 1);
            c.due("its last part", x.part(thing, parts - 1, 0), 0);
            c.due("none behind its last part", x.part(thing, parts, 0), BAD);
        }
    }

    private static void thingsFull() {
        c.promise(3, "FULL: 12.");
        DawnFair x = Check.withThings(11);
        c.due("the twelfth", x.thing(5), 11);
        c.refused(x, n -> x.thing(n[0]), FULL, Check.told(1), 0, 1, 2, 3, 4, 5);
        c.due("things", x.count(0), 12);
        c.due("no thing 12", x.apart(12), BAD);
        c.due("the twelfth as it came", x.part(11, 4, 7), 0);
    }

    private static void thingBadAheadOfFull() {
        c.promise(3, "Refused, changing nothing, the first of: BAD -2");
        DawnFair x = Check.withThings(12);
        c.refused(x, n -> x.thing(n[0]), BAD, Check.told(1), 0, 0, 6, MIN, MAX);
    }

    private static void partAnswersWhatWorksWere() {
        c.promise(4, "what they were.");
        DawnFair x = new DawnFair();
        x.thing(3);
        x.thing(5);
        c.due("none at first", x.part(0, 2, 7), 0);
        c.due("again", x.part(0, 2, 9), 7);
        c.due("the same", x.part(0, 2, 9), 9);
        c.due("another part of it", x.part(0, 1, 3), 0);
        c.due("the first part of the next thing", x.part(1, 0, 5), 0);
        c.due("that part of the next thing", x.part(1, 2, 5), 0);
        c.due("the first one has what it had", x.part(0, 2, 1), 9);
    }

    private static void partWorks() {
        c.promise(4, "WORKS of a PART (0 .. 1023)");
        DawnFair x = Check.withThings(1);
        c.due("all works", x.part(0, 0, 1023), 0);
        c.refused(x, building(x), BAD, Check.told(0, 0, 1), 2, -1, 1024, 2047, MIN, MAX);
        c.due("no works", x.part(0, 0, 0), 1023);
        c.due("as it was emptied", x.part(0, 0, 1), 0);
    }

    private static void partThatIsNotThere() {
        c.promise(4, "BAD.");
        DawnFair none = new DawnFair();
        c.due("no thing at all", none.part(0, 0, 0), BAD);
        DawnFair x = new DawnFair();
        x.thing(3);
        x.thing(5);
        x.thing(1);
        c.refused(x, building(x), BAD, Check.told(0, 0, 1), 0, -1, 3, 11, 12, MIN, MAX);
        c.refused(x, building(x), BAD, Check.told(0, 0, 1), 1, -1, 3, 4, 5, MIN, MAX);
        c.refused(x, building(x), BAD, Check.told(1, 0, 1), 1, -1, 5, MIN, MAX);
        c.refused(x, building(x), BAD, Check.told(2, 0, 1), 1, -1, 1, MIN, MAX);
    }

    private static void spanOfWorks() {
        c.promise(5, "the years that are in all of its WORKS'");
        DawnFair x = new DawnFair();
        x.work(0, 1700, 1760);
        x.work(1, 1740, 1800);
        x.work(9, 1600, 1750);
        x.thing(2);
        x.part(0, 0, 1);
        x.part(0, 1, 3);
        spanIs("of one work", x, 0, 1700, 1760);
        spanIs("of two works", x, 1, 1740, 1760);
        x.part(0, 1, 1023);
        spanIs("of all works", x, 1, 1740, 1750);
    }

    private static void spanWithoutWorks() {
        c.promise(5, "(all years without any)");
        DawnFair x = pieceOf(0, 1);
        spanIs("never given works", x, 0, 1600, 1950);
        x.part(0, 1, 0);
        spanIs("works taken away", x, 1, 1600, 1950);
    }

    private static void spanOfNoYear() {
        c.promise(5, "NONE: none.");
        DawnFair x = new DawnFair();
        x.work(0, 1700, 1760);
        x.work(1, 1760, 1800);
        x.work(2, 1761, 1800);
        x.thing(1);
        x.part(0, 0, 3);
        spanIs("they meet in one year", x, 0, 1760, 1760);
        x.part(0, 0, 5);
        spanIs("they miss by one year", x, 0, NONE, NONE);
        x.part(0, 0, 7);
        spanIs("two of three meet", x, 0, NONE, NONE);
        x.work(2, 1760, 1760);
        spanIs("when they meet again", x, 0, 1760, 1760);
    }

    private static void spanWhat() {
        c.promise(5, "the first year (0), the last (1).");
        DawnFair x = pieceOf(1, 3);
        c.refused(x, n -> x.span(n[0], n[1], n[2]), BAD, Check.told(0, 0, 0), 2, -1, 2, MIN, MAX);
        c.refused(x, n -> x.span(n[0], n[1], n[2]), BAD, Check.told(0, 1, 0), 2, -1, 2, MIN, MAX);
        spanIs("of ten years", x, 0, 1600, 1609);
    }

    private static void spanOfWhatIsNotThere() {
        c.promise(5, "BAD.");
        c.due("no thing at all", new DawnFair().span(0, 0, 0), BAD);
        DawnFair x = new DawnFair();
        x.thing(2);
        x.thing(5);
        c.refused(x, n -> x.span(n[0], n[1], n[2]), BAD, Check.told(0, 0, 0), 0, -1, 2, 11, 12, MIN, MAX);
        c.refused(x, n -> x.span(n[0], n[1], n[2]), BAD, Check.told(0, 0, 1), 1, -1, 2, 4, 5, MIN, MAX);
        c.due("the last part", x.span(1, 4, 0), 1600);
        c.due("none behind it", x.span(1, 5, 0), BAD);
    }

    private static void apartFewest() {
        c.promise(6, "APART: the fewest PARTS of a THING without which the others");
        c.due("one of four, though it is the greatest number", pieceOf(1, 1, 1, 2).apart(0), 8);
        c.due("three of five", pieceOf(1, 2, 4, 4, 8).apart(0), 19);
        c.due("one that has no year itself", pieceOf(1, 3, 1).apart(0), 2);
        c.due("one of five", pieceOf(1, 1, 1, 1, 2).apart(0), 16);
        DawnFair x = new DawnFair();
        x.work(0, 1700, 1750);
        x.work(1, 1740, 1790);
        x.work(2, 1780, 1800);
        x.thing(3);
        for (int part = 0; part < 3; part++) {
            x.part(0, part, 1 << part);
        }
        c.due("each meets the next, not all", x.apart(0), 1);
        x.work(2, 1750, 1800);
        c.due("all meet in one year", x.apart(0), 0);
        x.work(2, 1751, 1800);
        c.due("not all, by one year", x.apart(0), 1);
    }

    private static void apartOneAtLeast() {
        c.promise(6, "the others, one at least, have a year in all their SPANS");
        c.due("one of two stays", pieceOf(1, 2).apart(0), 1);
        c.due("one of five stays", pieceOf(1, 2, 4, 8, 16).apart(0), 15);
        c.due("the one that has a year stays", pieceOf(3, 1, 3, 3, 3).apart(0), 29);
        c.due("one without works stays", pieceOf(3, 0, 3).apart(0), 5);
        c.due("never all of one part", pieceOf(3).apart(0), NONE);
    }

    private static void apartLeastNumber() {
        c.promise(6, "of like many the least as a number");
        c.due("of two", pieceOf(1, 2).apart(0), 1);
        c.due("1, 3 ahead of 2, 4", pieceOf(1, 2, 1, 2).apart(0), 5);
        c.due("2, 3 ahead of 1, 4", pieceOf(2, 1, 1, 2).apart(0), 6);
        c.due("1, 2 ahead of 3, 4", pieceOf(1, 1, 2, 2).apart(0), 3);
    }

    private static void apartOfOneTime() {
        c.promise(6, "(0: it is of one time)");
        c.due("one part", pieceOf(1).apart(0), 0);
        c.due("one part without works", pieceOf(0).apart(0), 0);
        c.due("five parts, some without works", pieceOf(1, 1, 0, 1, 1).apart(0), 0);
        DawnFair full = new DawnFair();
        full.work(0, 1600, 1700);
        full.work(1, 1701, 1800);
        for (int i = 0; i < 12; i++) {
            full.thing(5);
            full.part(i, 4, 1 << i % 2);
        }
        for (int i = 0; i < 12; i++) {
            c.due("each of twelve by itself", full.apart(i), 0);
            c.due("each of twelve by itself", full.date(i, 1), i % 2 == 0 ? 1700 : 1800);
        }
    }

    private static void apartNone() {
        c.promise(6, "None, if no PART alone has a year.");
        c.due("one part", pieceOf(3).apart(0), NONE);
        c.due("five parts", pieceOf(3, 5, 6, 12, 24).apart(0), NONE);
        c.due("the last alone has one", pieceOf(3, 5, 6, 12, 16).apart(0), 15);
    }

    private static void apartBad() {
        c.promise(6, "NONE: none. BAD.");
        c.due("no thing at all", new DawnFair().apart(0), BAD);
        DawnFair x = pieceOf(1, 2);
        c.refused(x, n -> x.apart(n[0]), BAD, Check.told(0), 0, -1, 1, 11, 12, MIN, MAX);
    }

    private static void dateOfTheOthers() {
        c.promise(7, "THE DATE: the first and the last year that all the others have.");
        DawnFair x = pieceOf(1, 2, 2);
        dateIs("two of three", x, 1620, 1629);
        x.work(2, 1625, 1950);
        x.part(0, 2, 4);
        dateIs("of two spans what both have", x, 1625, 1629);
        x.work(2, 1629, 1950);
        dateIs("one year", x, 1629, 1629);
        dateIs("without works", pieceOf(0, 0), 1600, 1950);
        dateIs("of one time", pieceOf(1), 1600, 1609);
        dateIs("the one that is left", pieceOf(3, 5, 6, 12, 16), 1680, 1689);
    }

    private static void dateNone() {
        c.promise(7, "NONE; BAD.");
        dateIs("no part has a year", pieceOf(3, 5), NONE, NONE);
        dateIs("its one part has none", pieceOf(3), NONE, NONE);
    }

    private static void dateBad() {
        c.promise(7, "the first year (0), the last (1).");
        c.due("no thing at all", new DawnFair().date(0, 0), BAD);
        DawnFair x = pieceOf(1, 2);
        c.refused(x, n -> x.date(n[0], n[1]), BAD, Check.told(0, 0), 0, -1, 1, 11, 12, MIN, MAX);
        c.refused(x, n -> x.date(n[0], n[1]), BAD, Check.told(0, 0), 1, -1, 2, MIN, MAX);
        DawnFair none = pieceOf(3, 5);
        c.refused(none, n -> none.date(n[0], n[1]), BAD, Check.told(0, 0), 1, -1, 2, MIN, MAX);
    }
}
