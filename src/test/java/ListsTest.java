import java.math.BigInteger;

/** Promises 21 to 30: lists, debts. */
public final class ListsTest {
    private static final int BAD = Check.BAD, NONE = Check.NONE, NO = Check.NO, FULL = Check.FULL;
    private static final int BAD_SUM = Check.BAD_SUM, BAD_SCORE = Check.BAD_SCORE, MIN = Check.MIN, MAX = Check.MAX;
    private static final Check c = new Check("ListsTest");

    public static void main(String[] args) {
        entriesAsTheyCome();
        entryMarks();
        entriesFull();
        entryBadAheadOfFull();
        markAnswersHowItWas();
        markNumbers();
        markBad();
        markTheLaterCounts();
        scoreOfMarks();
        scoreLeastAndGreatest();
        scoreBad();
        joinedGreatestSum();
        joinedOneToOne();
        joinedNoneOfNothing();
        joinedAboveSix();
        joinedOfNothing();
        joinedToFirstByThings();
        joinedToNoneBehindAll();
        joinedToBad();
        joinedToNo();
        oweAnswersWhatItDid();
        oweMuch();
        oweAlike();
        oweBad();
        netOfDealers();
        netBad();
        fallOfOne();
        fallPaysNothing();
        fallBelow();
        fallInRounds();
        fallTillNoneDoes();
        fallBad();
        countsAsTold();
        countsOfAFullObject();
        countBad();
        digestInOrder();
        digestOfANewObject();
        digestWrapsAround();
        c.endOf(21, 30);
    }

    private static void see(DawnFair x, int thing, int marks) {
        for (int mark = 0; mark < 12; mark++) {
            x.mark(thing, mark, marks >> mark & 1);
        }
    }

    private static void entriesAsTheyCome() {
        c.promise(21, "ENTRIES 0 .. 9, as they come");
        DawnFair x = Check.withThings(1);
        x.mark(0, 3, 1);
        for (int i = 0; i < 10; i++) {
            c.due("not yet come", x.score(i, 0), BAD_SCORE);
            c.due("entry", x.entry(i % 2 == 0 ? 8 : 0), i);
            c.due("entries", x.count(4), i + 1);
            c.due("come", x.score(i, 0), i % 2 == 0 ? 2 : -1);
        }
    }

    private static void entryMarks() {
        c.promise(21, "with MARKS (0 .. 4095 as bits)");
        DawnFair x = Check.withThings(1);
        c.refused(x, n -> x.entry(n[0]), BAD, Check.told(0), 0, -1, 4096, 8191, MIN, MAX);
        see(x, 0, 4095);
        c.due("without marks", x.entry(0), 0);
        c.due("with all marks", x.entry(4095), 1);
        c.due("score of no marks", x.score(0, 0), -12);
        c.due("score of all marks", x.score(1, 0), 24);
    }

    private static void entriesFull() {
        c.promise(21, "FULL: 10.");
        DawnFair x = new DawnFair();
        for (int i = 0; i < 10; i++) {
            c.due("entry", x.entry(i), i);
        }
        c.refused(x, n -> x.entry(n[0]), FULL, Check.told(0), 0, 0, 1, 4095);
        c.due("entries", x.count(4), 10);
    }

    private static void entryBadAheadOfFull() {
        c.promise(21, "Refused, changing nothing, the first of: BAD -2");
        DawnFair x = new DawnFair();
        for (int i = 0; i < 10; i++) {
            x.entry(i);
        }
        c.refused(x, n -> x.entry(n[0]), BAD, Check.told(0), 0, -1, 4096, MIN, MAX);
    }

    private static void markAnswersHowItWas() {
        c.promise(22, "0 unknown, 1 SEEN, 2 it LACKS it: how it was.");
        DawnFair x = Check.withThings(2);
        c.due("unknown at first", x.mark(0, 5, 1), 0);
        c.due("seen", x.mark(0, 5, 1), 1);
        c.due("seen, then lacked", x.mark(0, 5, 2), 1);
        c.due("lacked", x.mark(0, 5, 2), 2);
        c.due("lacked, then seen", x.mark(0, 5, 1), 2);
        c.due("seen, then unknown", x.mark(0, 5, 0), 1);
        c.due("unknown", x.mark(0, 5, 0), 0);
        c.due("unknown, then lacked", x.mark(0, 5, 2), 0);
        c.due("lacked, then unknown", x.mark(0, 5, 0), 2);
        c.due("unknown again", x.mark(0, 5, 2), 0);
        c.due("that mark of another thing", x.mark(1, 5, 1), 0);
        c.due("another mark of that thing", x.mark(0, 4, 1), 0);
    }

    private static void markNumbers() {
        c.promise(22, "A MARK (0 .. 11) of a THING");
        DawnFair x = Check.withThings(1);
        c.refused(x, n -> x.mark(n[0], n[1], n[2]), BAD, Check.told(0, 0, 1), 1, -1, 12, 31, 32, 43, MIN, MAX);
        c.due("the first", x.mark(0, 0, 1), 0);
        c.due("the last", x.mark(0, 11, 1), 0);
        x.entry(1 | 1 << 11);
        c.due("both were seen", x.score(0, 0), 4);
    }

    private static void markBad() {
        c.promise(22, "BAD.");
        c.due("no thing at all", new DawnFair().mark(0, 0, 1), BAD);
        DawnFair x = Check.withThings(2);
        x.mark(0, 0, 1);
        c.refused(x, n -> x.mark(n[0], n[1], n[2]), BAD, Check.told(0, 0, 2), 0, -1, 2, 11, 12, MIN, MAX);
        c.refused(x, n -> x.mark(n[0], n[1], n[2]), BAD, Check.told(0, 0, 2), 2, -1, 3, MIN, MAX);
        c.due("it is what it was", x.mark(0, 0, 1), 1);
    }

    private static void markTheLaterCounts() {
        c.promise(22, "(never both: the later one counts)");
        DawnFair x = Check.withThings(1);
        x.entry(1);
        x.mark(0, 0, 1);
        c.due("seen", x.score(0, 0), 2);
        x.mark(0, 0, 2);
        c.due("lacked, no longer seen", x.score(0, 0), -3);
        x.mark(0, 0, 1);
        c.due("seen, no longer lacked", x.score(0, 0), 2);
        x.mark(0, 0, 0);
        c.due("neither", x.score(0, 0), 0);
    }

    private static void scoreOfMarks() {
        c.promise(23, "2 for each of its MARKS that is SEEN, -3 for each that it LACKS, -1 for each that is SEEN but not its own.");
        DawnFair x = Check.withThings(2);
        x.entry(0b0111);
        x.entry(0);
        c.due("nothing known", x.score(0, 0), 0);
        x.mark(0, 0, 1);
        c.due("one seen", x.score(0, 0), 2);
        x.mark(0, 1, 2);
        c.due("one lacked", x.score(0, 0), -1);
        x.mark(0, 3, 1);
        c.due("one seen, not its own", x.score(0, 0), -2);
        x.mark(0, 4, 2);
        c.due("one lacked, not its own", x.score(0, 0), -2);
        c.due("without marks", x.score(1, 0), -2);
        c.due("of another thing", x.score(0, 1), 0);
    }

    private static void scoreLeastAndGreatest() {
        c.promise(23, "THE SCORE.");
        DawnFair x = Check.withThings(12);
        for (int i = 0; i < 10; i++) {
            x.entry(i == 9 ? 4095 : 0);
        }
        for (int mark = 0; mark < 12; mark++) {
            x.mark(11, mark, 2);
        }
        c.due("the least", x.score(9, 11), -36);
        see(x, 11, 4095);
        c.due("the greatest", x.score(9, 11), 24);
        c.due("all seen, none its own", x.score(8, 11), -12);
    }

    private static void scoreBad() {
        c.promise(23, "BAD: -1000.");
        c.due("no entry and no thing", new DawnFair().score(0, 0), BAD_SCORE);
        DawnFair x = Check.withThings(3);
        c.due("no entry", x.score(0, 0), BAD_SCORE);
        x.entry(1);
        x.entry(1);
        c.refused(x, n -> x.score(n[0], n[1]), BAD_SCORE, Check.told(0, 0), 0, -1, 2, 9, 10, MIN, MAX);
        c.refused(x, n -> x.score(n[0], n[1]), BAD_SCORE, Check.told(0, 0), 1, -1, 3, 11, 12, MIN, MAX);
    }

    private static void joinedIs(String what, DawnFair x, int sum, int... things) {
        c.due(what + ": sum", x.joined(), sum);
        for (int entry = 0; entry < things.length; entry++) {
            c.due(what + ": joinedTo(" + entry + ")", x.joinedTo(entry), things[entry]);
        }
    }

    private static DawnFair listed(int things, int... entries) {
        DawnFair x = Check.withThings(things);
        for (int marks : entries) {
            x.entry(marks);
        }
        return x;
    }

    private static void joinedGreatestSum() {
        c.promise(24, "the greatest sum");
        DawnFair x = listed(2, 0b0011, 0b1111);
        see(x, 0, 0b1011);
        see(x, 1, 0b0011);
        // scores: entry 0: 3 and 4, entry 1: 6 and 4
        joinedIs("crosswise", x, 10, 1, 0);
        DawnFair y = listed(1, 0b0011, 0b0111);
        see(y, 0, 0b0111);
        joinedIs("the better one, though it is behind", y, 6, NONE, 0);
        DawnFair z = listed(12, 4095, 4095, 4095, 4095, 4095, 4095);
        for (int i = 6; i < 12; i++) {
            see(z, i, 4095);
        }
        joinedIs("the greatest of all sums", z, 144, 6, 7, 8, 9, 10, 11);
    }

    private static void joinedOneToOne() {
        c.promise(24, "each ENTRY to one THING at most, each THING to one ENTRY");
        DawnFair x = listed(3, 1);
        for (int i = 0; i < 3; i++) {
            see(x, i, 1);
        }
        joinedIs("one entry, three things", x, 2, 0);
        DawnFair y = listed(1, 1, 1, 1);
        see(y, 0, 1);
        joinedIs("three entries, one thing", y, 2, 0, NONE, NONE);
    }

    private static void joinedNoneOfNothing() {
        c.promise(24, "none with a SCORE of 0 or less");
        DawnFair x = listed(2, 0b0001, 0b0010);
        see(x, 0, 0b1101);
        see(x, 1, 0b1111110);
        c.due("a score of 0", x.score(0, 0), 0);
        c.due("a score below 0", x.score(1, 1), -3);
        joinedIs("neither joins", x, 0, NONE, NONE);
        see(x, 0, 0b1001);
        c.due("a score of 1", x.score(0, 0), 1);
        joinedIs("it joins", x, 1, 0, NONE);
    }

    private static void joinedAboveSix() {
        c.promise(24, "NO: above 6 ENTRIES.");
        DawnFair x = listed(1, 1, 1, 1, 1, 1, 1);
        see(x, 0, 1);
        c.due("six", x.joined(), 2);
        for (int entries = 7; entries <= 10; entries++) {
            x.entry(1);
            long before = x.digest();
            c.due(entries + " entries", x.joined(), NO);
            c.due("digest", x.digest(), before);
        }
    }

    private static void joinedOfNothing() {
        c.promise(24, "JOINED: the sum.");
        c.due("no entries, no things", new DawnFair().joined(), 0);
        DawnFair things = Check.withThings(1);
        see(things, 0, 1);
        c.due("no entries", things.joined(), 0);
        joinedIs("no things", listed(0, 1, 4095), 0, NONE, NONE);
    }

    private static void joinedToFirstByThings() {
        c.promise(25, "of like ones the first by THINGS that ENTRIES in order have");
        DawnFair x = listed(12, 1, 1, 1, 1, 1, 1);
        see(x, 11, 1);
        see(x, 4, 1);
        joinedIs("two things", x, 4, 4, 11, NONE, NONE, NONE, NONE);
        for (int i = 0; i < 12; i++) {
            see(x, i, 1);
        }
        joinedIs("twelve things", x, 12, 0, 1, 2, 3, 4, 5);
        DawnFair y = listed(3, 0b11, 0b01);
        see(y, 0, 0b01);
        see(y, 1, 0b01);
        see(y, 2, 0b11);
        // entry 0 scores 2, 2, 4; entry 1 scores 2, 2, 1
        joinedIs("the sum ahead of the order", y, 6, 2, 0);
    }

    private static void joinedToNoneBehindAll() {
        c.promise(25, "(none behind all)");
        DawnFair x = listed(12, 1, 1);
        joinedIs("none seen", x, 0, NONE, NONE);
        see(x, 11, 1);
        joinedIs("the last thing goes to the first entry", x, 2, 11, NONE);
        DawnFair y = listed(2, 0b01, 0b11, 0b10);
        see(y, 0, 0b01);
        see(y, 1, 0b10);
        // 0 and 1 may have the things, or 1 and 2, or 0 and 2: all sums are 4
        joinedIs("the last entry goes without", y, 4, 0, 1, NONE);
    }

    private static void joinedToBad() {
        c.promise(25, "NONE; BAD; NO.");
        c.due("no entries", Check.withThings(1).joinedTo(0), BAD);
        DawnFair x = listed(1, 1, 1, 1, 1, 1, 1);
        c.due("the last", x.joinedTo(5), NONE);
        c.refused(x, n -> x.joinedTo(n[0]), BAD, Check.told(0), 0, -1, 6, 9, 10, MIN, MAX);
        DawnFair y = listed(1, 1, 1, 1, 1, 1, 1, 1);
        c.refused(y, n -> y.joinedTo(n[0]), BAD, Check.told(0), 0, -1, 7, 9, 10, MIN, MAX);
    }

    private static void joinedToNo() {
        c.promise(25, "BAD -2 a number is not as told; NO -3 as told");
        DawnFair x = listed(1, 1, 1, 1, 1, 1, 1, 1);
        see(x, 0, 1);
        c.refused(x, n -> x.joinedTo(n[0]), NO, Check.told(0), 0, 0, 1, 5, 6);
        DawnFair full = listed(1, 1, 1, 1, 1, 1, 1, 1, 1, 1, 1);
        c.refused(full, n -> full.joinedTo(n[0]), NO, Check.told(0), 0, 0, 5, 6, 9);
    }

    private static void oweAnswersWhatItDid() {
        c.promise(26, "What a owes b: what it did.");
        DawnFair x = new DawnFair();
        c.due("nothing at first", x.owe(0, 7, 20), 0);
        c.due("anew, not on top of it", x.owe(0, 7, 30), 20);
        c.due("the other way", x.owe(7, 0, 50), 0);
        c.due("to another", x.owe(0, 1, 5), 0);
        c.due("paid", x.owe(0, 7, 0), 30);
        c.due("as it was paid", x.owe(0, 7, 1), 0);
    }

    private static void oweMuch() {
        c.promise(26, "DEBTS: a owes b so much (0 .. 10000 each).");
        DawnFair x = new DawnFair();
        c.due("the most", x.owe(0, 1, 10000), 0);
        c.refused(x, n -> x.owe(n[0], n[1], n[2]), BAD, Check.told(0, 1, 5), 2, -1, 10001, MIN, MAX);
        c.due("the least", x.owe(0, 1, 0), 10000);
        c.due("as it was paid", x.owe(0, 1, 1), 0);
    }

    private static void oweAlike() {
        c.promise(26, "BAD: also alike.");
        DawnFair x = new DawnFair();
        for (int a = 0; a < 8; a++) {
            c.due("to itself", x.owe(a, a, 5), BAD);
            c.due("nothing to itself", x.owe(a, a, 0), BAD);
        }
        c.due("debts", x.count(6), 0);
    }

    private static void oweBad() {
        c.promise(26, "DEALERS 0 .. 7.");
        DawnFair x = new DawnFair();
        x.owe(0, 7, 40);
        c.refused(x, n -> x.owe(n[0], n[1], n[2]), BAD, Check.told(0, 7, 5), 0, -1, 8, MIN, MAX);
        c.refused(x, n -> x.owe(n[0], n[1], n[2]), BAD, Check.told(0, 7, 5), 1, -1, 8, MIN, MAX);
        c.due("it owes what it did", x.owe(0, 7, 5), 40);
    }

    private static void netOfDealers() {
        c.promise(27, "NET of a DEALER: what others owe it less what it owes.");
        DawnFair x = new DawnFair();
        c.due("no debts", x.net(0), 0);
        x.owe(0, 7, 30);
        x.owe(7, 0, 50);
        x.owe(0, 1, 5);
        c.due("net(0)", x.net(0), 15);
        c.due("net(7)", x.net(7), -20);
        c.due("net(1)", x.net(1), 5);
        c.due("net(2)", x.net(2), 0);
        DawnFair y = new DawnFair();
        for (int other = 1; other < 8; other++) {
            y.owe(other, 0, 10000);
        }
        c.due("the greatest", y.net(0), 70000);
        DawnFair z = new DawnFair();
        for (int other = 0; other < 7; other++) {
            z.owe(7, other, 10000);
        }
        c.due("the least", z.net(7), -70000);
    }

    private static void netBad() {
        c.promise(27, "BAD: -2000000000.");
        DawnFair x = new DawnFair();
        c.refused(x, n -> x.net(n[0]), BAD_SUM, Check.told(0), 0, -1, 8, MIN, MAX);
    }

    private static void fallOfOne() {
        c.promise(28, "A FALL: all that fell, as bits.");
        DawnFair x = new DawnFair();
        for (int dealer = 0; dealer < 8; dealer++) {
            c.due("no debts, no money", x.fall(dealer, 0), 1 << dealer);
        }
        x.owe(0, 1, 10000);
        long before = x.digest();
        c.due("one that owes falls without any cause", x.fall(7, 0), 128 + 1);
        c.due("nothing is changed by it", x.digest(), before);
    }

    private static void fallPaysNothing() {
        c.promise(28, "it pays nothing");
        DawnFair x = new DawnFair();
        x.owe(0, 1, 50);
        x.owe(1, 2, 100);
        c.due("what it has would have been enough", x.fall(0, 50), 3);
        c.due("the other two stand by it", x.fall(2, 50), 4);
        c.due("it falls with the most money too", x.fall(0, 100000), 1);
    }

    private static void fallBelow() {
        c.promise(28, "what those owe it that have not fallen below what it owes, falls too");
        DawnFair x = new DawnFair();
        x.owe(0, 1, 100);
        x.owe(1, 2, 100);
        c.due("below by one", x.fall(0, 99), 3);
        c.due("just enough", x.fall(0, 100), 1);
        DawnFair y = new DawnFair();
        y.owe(0, 1, 60);
        y.owe(1, 0, 100);
        y.owe(1, 2, 100);
        c.due("what it owes to one that fell counts", y.fall(0, 199), 3);
        c.due("just enough for that too", y.fall(0, 200), 1);
        c.due("one that has not fallen pays", y.fall(2, 140), 4);
        c.due("by one too little", y.fall(2, 139), 6);
    }

    private static void fallInRounds() {
        c.promise(28, "(all of a round at once)");
        DawnFair x = new DawnFair();
        x.owe(0, 1, 10);
        x.owe(0, 2, 10);
        x.owe(1, 2, 10);
        x.owe(2, 1, 10);
        c.due("each is held up by the other", x.fall(0, 0), 1);
        x.owe(1, 3, 10);
        x.owe(2, 3, 10);
        c.due("both of a round", x.fall(0, 5), 7);
        DawnFair y = new DawnFair();
        y.owe(0, 1, 10);
        y.owe(1, 2, 10);
        y.owe(2, 1, 5);
        y.owe(2, 3, 5);
        c.due("the second round", y.fall(0, 4), 7);
        c.due("none in the first round", y.fall(0, 5), 1);
    }

    private static void fallTillNoneDoes() {
        c.promise(28, "till none does");
        DawnFair up = new DawnFair();
        DawnFair down = new DawnFair();
        for (int i = 0; i < 7; i++) {
            up.owe(i, i + 1, 10000);
            down.owe(i + 1, i, 10000);
        }
        up.owe(7, 0, 10000);
        down.owe(0, 7, 10000);
        c.due("seven rounds upwards", up.fall(0, 9999), 255);
        c.due("seven rounds downwards", down.fall(7, 9999), 255);
        c.due("seven rounds around", up.fall(4, 0), 255);
        c.due("none in the first", up.fall(0, 10000), 1);
    }

    private static void fallBad() {
        c.promise(28, "all having money m each (0 .. 100000)");
        DawnFair x = new DawnFair();
        for (int other = 1; other < 8; other++) {
            x.owe(0, other, 10000);
        }
        c.refused(x, n -> x.fall(n[0], n[1]), BAD, Check.told(0, 0), 0, -1, 8, MIN, MAX);
        c.refused(x, n -> x.fall(n[0], n[1]), BAD, Check.told(0, 0), 1, -1, 100001, MIN, MAX);
        c.due("the most money", x.fall(7, 100000), 128);
        c.due("enough for the greatest debts", x.fall(7, 70000), 128);
        c.due("by one too little", x.fall(7, 69999), 129);
        c.due("no money", x.fall(7, 0), 129);
    }

    private static DawnFair filled() {
        DawnFair x = new DawnFair();
        x.work(3, 1700, 1800);
        x.thing(2);
        x.thing(1);
        x.part(0, 1, 9);
        x.hold(0, 4);
        x.sell(0, 5, 70, 0);
        x.hours(1);
        x.sell(0, 6, 90, 33);
        x.back(0);
        x.lot(7, 3, 1);
        x.lot(9, 0, NONE);
        x.entry(5);
        x.entry(4095);
        x.mark(0, 2, 1);
        x.mark(1, 3, 2);
        x.owe(0, 1, 5);
        x.owe(1, 2, 7);
        return x;
    }

    private static void countsAre(DawnFair x, int... want) {
        for (int what = 0; what < 7; what++) {
            c.due("count(" + what + ")", x.count(what), want[what]);
        }
    }

    private static void countsAsTold() {
        c.promise(29, "0 THINGS, 1 SALES, 2 of these that stand, 3 LOTS, 4 ENTRIES, 5 THE HOUR, 6 all DEBTS together.");
        countsAre(new DawnFair(), 0, 0, 0, 0, 0, 4, 0);
        countsAre(filled(), 2, 2, 1, 2, 2, 5, 12);
    }

    private static void countsOfAFullObject() {
        c.promise(29, "How many");
        DawnFair x = Check.withThings(12);
        for (int sales = 0; sales < 80; sales++) {
            x.hold(sales % 12, 0);
            x.sell(sales % 12, 1, 5, 0);
            if (sales % 12 == 11) {
                x.hours(1);
            }
        }
        for (int i = 0; i < 41; i++) {
            x.lot(3, 1, 0);
            x.entry(i);
        }
        for (int a = 0; a < 8; a++) {
            for (int b = 0; b < 8; b++) {
                x.owe(a, b, 10000);
            }
        }
        x.thing(1);
        x.sell(11, 2, 5, 0);
        countsAre(x, 12, 80, 80, 40, 10, 10, 560000);
    }

    private static void countBad() {
        c.promise(29, "BAD.");
        DawnFair x = filled();
        c.refused(x, n -> x.count(n[0]), BAD, Check.told(0), 0, -1, 7, MIN, MAX);
    }

    private static final long[] YEARS_AT_FIRST = {
        1600, 1950, 1600, 1950, 1600, 1950, 1600, 1950, 1600, 1950,
        1600, 1950, 1600, 1950, 1600, 1950, 1600, 1950, 1600, 1950};

    private static BigInteger unbounded(BigInteger start, long... values) {
        BigInteger h = start;
        for (long v : values) {
            h = h.multiply(BigInteger.valueOf(31)).add(BigInteger.valueOf(v));
        }
        return h;
    }

    private static void digestInOrder() {
        c.promise(30, "then h = 31 h + v for each v: count(0) to count(6); of WORKS from, to;");
        BigInteger h = unbounded(BigInteger.valueOf(239),
            2, 2, 1, 2, 2, 5, 12,
            1600, 1950, 1600, 1950, 1600, 1950, 1700, 1800, 1600, 1950,
            1600, 1950, 1600, 1950, 1600, 1950, 1600, 1950, 1600, 1950,
            2, 0, 9, 5, 4, 0,
            1, 0, -1, 0, 8,
            0, 4, 5, 70, 4, 0, 1,
            0, 5, 6, 90, 5, 33, 0,
            7, 3, 1, 9, 0, -1,
            5, 4095,
            0, -5, 0, -2, 0, 7, 0, 0, 70, 0, -70, 0, 0, 0, 0, 0);
        DawnFair x = filled();
        c.due("digest", x.digest(), h.longValue());
        c.due("digest again", x.digest(), h.longValue());
    }

    private static void digestOfANewObject() {
        c.promise(30, "h = 239;");
        BigInteger h = unbounded(BigInteger.valueOf(239), 0, 0, 0, 0, 0, 4, 0);
        h = unbounded(unbounded(h, YEARS_AT_FIRST), new long[16]);
        c.due("nothing but works and dealers", new DawnFair().digest(), h.longValue());
    }

    private static void digestWrapsAround() {
        c.promise(30, "`long digest()`: h = 239; then h = 31 h + v");
        DawnFair x = new DawnFair();
        int below = 0;
        for (int hour = 5; hour <= 24; hour++) {
            x.hours(1);
            BigInteger h = unbounded(BigInteger.valueOf(239), 0, 0, 0, 0, 0, hour, 0);
            h = unbounded(unbounded(h, YEARS_AT_FIRST), new long[16]);
            c.holds("the unbounded number passes a long", h.bitLength() > 64);
            c.due("its lowest 64 bits at hour " + hour, x.digest(), h.longValue());
            below += h.longValue() < 0 ? 1 : 0;
        }
        c.holds("some are below 0, some above", below > 0 && below < 20);
    }
}
