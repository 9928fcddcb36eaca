import java.util.Arrays;

/**
 * A fair before dawn: pieces and their years, sales by the hour, lots and rings,
 * lists of what was stolen, and debts. The document's promises say what each call answers.
 */
public final class DawnFair {
    public static final int NONE = -1, BAD = -2, NO = -3, FULL = -4;

    private static final int BAD_SUM = -2000000000;
    private static final int BAD_SCORE = -1000;

    private static final int FIRST_YEAR = 1600;
    private static final int LAST_YEAR = 1950;
    private static final int WORKS = 10;
    private static final int ALL_WORKS = (1 << WORKS) - 1;
    private static final int THINGS = 12;
    private static final int PARTS = 5;

    private static final int DEALERS = 8;
    private static final int ALL_DEALERS = (1 << DEALERS) - 1;
    private static final int FIRST_HOUR = 4;
    private static final int MOST_HOURS = 20;
    private static final int LATEST_BACK = 2000;
    private static final int MOST_MONEY = 100000;
    private static final int MOST_DEBT = 10000;
    private static final int SALES = 80;
    private static final int LOTS = 40;

    private static final int ENTRIES = 10;
    private static final int JOINABLE = 6;
    private static final int MARKS = 12;
    private static final int ALL_MARKS = (1 << MARKS) - 1;
    private static final int UNKNOWN = 0, SEEN = 1, LACKED = 2;

    private static final int COUNTS = 7;

    private final Pieces pieces = new Pieces();
    private final Trade trade = new Trade();
    private final Auctions auctions = new Auctions();
    private final Stolen stolen = new Stolen();
    private final Debts debts = new Debts();

    public DawnFair() {
    }

    // ---- works, things

    public int work(int w, int from, int to) {
        if (!within(w, 0, WORKS - 1) || !within(from, FIRST_YEAR, LAST_YEAR) || !within(to, from, LAST_YEAR)) {
            return BAD;
        }
        pieces.setYears(w, from, to);
        return 1;
    }

    public int thing(int parts) {
        if (!within(parts, 1, PARTS)) {
            return BAD;
        }
        return pieces.addThing(parts);
    }

    public int part(int thing, int part, int works) {
        if (!pieces.hasPart(thing, part) || !within(works, 0, ALL_WORKS)) {
            return BAD;
        }
        return pieces.changeWorks(thing, part, works);
    }

    public int span(int thing, int part, int what) {
        if (!pieces.hasPart(thing, part) || !within(what, 0, 1)) {
            return BAD;
        }
        return pieces.yearOf(pieces.worksOf(thing, part), what);
    }

    public int apart(int thing) {
        if (!pieces.hasThing(thing)) {
            return BAD;
        }
        return pieces.strangers(thing);
    }

    public int date(int thing, int what) {
        if (!pieces.hasThing(thing) || !within(what, 0, 1)) {
            return BAD;
        }
        int strangers = pieces.strangers(thing);
        if (strangers == NONE) {
            return NONE;
        }
        return pieces.yearOf(pieces.worksWithout(thing, strangers), what);
    }

    // ---- the fair

    public int hold(int thing, int dealer) {
        if (!pieces.hasThing(thing) || !within(dealer, NONE, DEALERS - 1)) {
            return BAD;
        }
        return trade.handOver(thing, dealer);
    }

    public int holder(int thing) {
        if (!pieces.hasThing(thing)) {
            return BAD;
        }
        return trade.holderOf(thing);
    }

    public int hours(int n) {
        if (!within(n, 1, MOST_HOURS)) {
            return BAD;
        }
        return trade.passHours(n);
    }

    public int sell(int thing, int buyer, int price, int back) {
        if (!pieces.hasThing(thing) || !isDealer(buyer)
                || !within(price, 0, MOST_MONEY) || !within(back, 0, LATEST_BACK)) {
            return BAD;
        }
        return trade.addSale(thing, buyer, price, back);
    }

    public int back(int thing) {
        if (!pieces.hasThing(thing)) {
            return BAD;
        }
        return trade.giveBack(thing);
    }

    public int sale(int i, int what) {
        if (i < 0 || !within(what, 0, Trade.FIELDS - 1)) {
            return BAD;
        }
        if (i >= trade.saleCount()) {
            return NONE;
        }
        return trade.field(i, what);
    }

    public int gain(int dealer) {
        return isDealer(dealer) ? trade.gainOf(dealer) : BAD_SUM;
    }

    public int rose(int thing) {
        return pieces.hasThing(thing) ? trade.riseOf(thing) : BAD_SUM;
    }

    // ---- lots, rings

    public int lot(int there, int bid, int won) {
        if (!within(there, 0, ALL_DEALERS) || !within(bid, 0, ALL_DEALERS) || (bid & ~there) != 0) {
            return BAD;
        }
        if (!mayHaveWon(bid, won)) {
            return BAD;
        }
        return auctions.addLot(there, bid, won);
    }

    public int both(int a, int b, int what) {
        if (!areTwo(a, b) || !within(what, 0, 3)) {
            return BAD;
        }
        return auctions.tally(a, b, what);
    }

    public long chance(int a, int b, int what) {
        if (!areTwo(a, b) || !within(what, 0, 1)) {
            return BAD;
        }
        long above = auctions.waysAsShy(a, b);
        long below = auctions.allWays(a, b);
        long shared = Math.max(1, Auctions.commonDivisor(above, below));
        return (what == 0 ? above : below) / shared;
    }

    public int shyest() {
        return auctions.shyestTwo();
    }

    public int inside(int ring, int p, int q, int what) {
        if (!within(ring, 0, ALL_DEALERS) || !within(p, 0, MOST_MONEY) || !within(q, p, MOST_MONEY)
                || !within(what, 0, 1)) {
            return BAD;
        }
        int size = Integer.bitCount(ring);
        if (size < 2) {
            return BAD;
        }
        int each = (q - p) / size;
        return what == 0 ? each : q - p - each * (size - 1);
    }

    // ---- lists, debts

    public int entry(int marks) {
        if (!within(marks, 0, ALL_MARKS)) {
            return BAD;
        }
        return stolen.addEntry(marks);
    }

    public int mark(int thing, int mark, int how) {
        if (!pieces.hasThing(thing) || !within(mark, 0, MARKS - 1) || !within(how, UNKNOWN, LACKED)) {
            return BAD;
        }
        return stolen.changeMark(thing, mark, how);
    }

    public int score(int entry, int thing) {
        if (!stolen.hasEntry(entry) || !pieces.hasThing(thing)) {
            return BAD_SCORE;
        }
        return stolen.scoreOf(entry, thing);
    }

    public int joined() {
        if (!stolen.isJoinable()) {
            return NO;
        }
        return Stolen.sumIn(stolen.bestJoin(pieces.thingCount()));
    }

    public int joinedTo(int entry) {
        if (!stolen.hasEntry(entry)) {
            return BAD;
        }
        if (!stolen.isJoinable()) {
            return NO;
        }
        return Stolen.thingIn(stolen.bestJoin(pieces.thingCount()), entry);
    }

    public int owe(int a, int b, int v) {
        if (!areTwo(a, b) || !within(v, 0, MOST_DEBT)) {
            return BAD;
        }
        return debts.change(a, b, v);
    }

    public int net(int dealer) {
        return isDealer(dealer) ? debts.netOf(dealer) : BAD_SUM;
    }

    public int fall(int dealer, int money) {
        if (!isDealer(dealer) || !within(money, 0, MOST_MONEY)) {
            return BAD;
        }
        return debts.fallFrom(dealer, money);
    }

    public int count(int what) {
        switch (what) {
            case 0:
                return pieces.thingCount();
            case 1:
                return trade.saleCount();
            case 2:
                return trade.standingCount();
            case 3:
                return auctions.lotCount();
            case 4:
                return stolen.entryCount();
            case 5:
                return trade.currentHour();
            case 6:
                return debts.total();
            default:
                return BAD;
        }
    }

    public long digest() {
        long h = 239;
        for (int what = 0; what < COUNTS; what++) {
            h = mix(h, count(what));
        }
        h = pieces.mixWorks(h);
        for (int thing = 0; thing < pieces.thingCount(); thing++) {
            h = pieces.mixParts(h, thing);
            h = mix(h, trade.holderOf(thing));
            h = stolen.mixMarks(h, thing);
        }
        h = trade.mixSales(h);
        h = auctions.mixLots(h);
        h = stolen.mixEntries(h);
        for (int dealer = 0; dealer < DEALERS; dealer++) {
            h = mix(h, trade.gainOf(dealer));
            h = mix(h, debts.netOf(dealer));
        }
        return h;
    }

    private static long mix(long h, int v) {
        return 31 * h + v;
    }

    private static boolean within(int x, int least, int most) {
        return least <= x && x <= most;
    }

    private static boolean isDealer(int x) {
        return within(x, 0, DEALERS - 1);
    }

    private static boolean areTwo(int a, int b) {
        return isDealer(a) && isDealer(b) && a != b;
    }

    private static boolean mayHaveWon(int bid, int won) {
        if (bid == 0) {
            return won == NONE;
        }
        return isDealer(won) && (bid >> won & 1) == 1;
    }

    /** The years of works, and things with their parts. */
    private static final class Pieces {
        private final int[] from = new int[WORKS];
        private final int[] to = new int[WORKS];
        private final int[] parts = new int[THINGS];
        private final int[] works = new int[THINGS * PARTS];
        private int things = 0;

        Pieces() {
            Arrays.fill(from, FIRST_YEAR);
            Arrays.fill(to, LAST_YEAR);
        }

        void setYears(int work, int first, int last) {
            from[work] = first;
            to[work] = last;
        }

        int addThing(int partCount) {
            if (things >= THINGS) {
                return FULL;
            }
            parts[things] = partCount;
            things++;
            return things - 1;
        }

        int thingCount() {
            return things;
        }

        boolean hasThing(int thing) {
            return within(thing, 0, things - 1);
        }

        boolean hasPart(int thing, int part) {
            return hasThing(thing) && within(part, 0, parts[thing] - 1);
        }

        int worksOf(int thing, int part) {
            return works[thing * PARTS + part];
        }

        int changeWorks(int thing, int part, int newWorks) {
            int old = worksOf(thing, part);
            works[thing * PARTS + part] = newWorks;
            return old;
        }

        // Spans are met by all parts just when the years of all their works together meet,
        // so a set of parts is judged by the union of its works.
        int worksWithout(int thing, int leftOut) {
            int union = 0;
            for (int part = 0; part < parts[thing]; part++) {
                if ((leftOut >> part & 1) == 0) {
                    union |= worksOf(thing, part);
                }
            }
            return union;
        }

        int yearOf(int someWorks, int what) {
            int first = FIRST_YEAR;
            int last = LAST_YEAR;
            for (int work = 0; work < WORKS; work++) {
                if ((someWorks >> work & 1) == 1) {
                    first = Math.max(first, from[work]);
                    last = Math.min(last, to[work]);
                }
            }
            if (first > last) {
                return NONE;
            }
            return what == 0 ? first : last;
        }

        int strangers(int thing) {
            int all = (1 << parts[thing]) - 1;
            int best = NONE;
            for (int leftOut = 0; leftOut < all; leftOut++) {
                boolean fewer = best == NONE || Integer.bitCount(leftOut) < Integer.bitCount(best);
                if (fewer && yearOf(worksWithout(thing, leftOut), 0) != NONE) {
                    best = leftOut;
                }
            }
            return best;
        }

        long mixWorks(long start) {
            long h = start;
            for (int work = 0; work < WORKS; work++) {
                h = mix(h, from[work]);
                h = mix(h, to[work]);
            }
            return h;
        }

        long mixParts(long start, int thing) {
            long h = mix(start, parts[thing]);
            for (int part = 0; part < parts[thing]; part++) {
                h = mix(h, worksOf(thing, part));
            }
            return h;
        }
    }

    /** Who holds what, the hour, and the sales. */
    private static final class Trade {
        private static final int THING = 0, SELLER = 1, BUYER = 2, PRICE = 3, HOUR = 4, BACK = 5, STANDS = 6;
        private static final int FIELDS = 7;

        private final int[] holders = new int[THINGS];
        private final int[] latest = new int[THINGS];
        private final int[] soldAt = new int[THINGS];
        private final int[] rows = new int[SALES * FIELDS];
        private final int[] ahead = new int[SALES];
        private int sales = 0;
        private int hour = FIRST_HOUR;

        Trade() {
            Arrays.fill(holders, NONE);
            Arrays.fill(latest, NONE);
            Arrays.fill(soldAt, NONE);
        }

        int holderOf(int thing) {
            return holders[thing];
        }

        // Without a latest sale the next sale has none ahead of it either:
        // what was sold before a hand-over never comes back by its old terms.
        int handOver(int thing, int dealer) {
            int old = holders[thing];
            holders[thing] = dealer;
            latest[thing] = NONE;
            return old;
        }

        int currentHour() {
            return hour;
        }

        int passHours(int n) {
            hour += n;
            return hour;
        }

        private boolean mayBeSold(int thing, int buyer, int back) {
            int seller = holders[thing];
            return seller != NONE && seller != buyer && (back == 0 || back > hour) && soldAt[thing] != hour;
        }

        int addSale(int thing, int buyer, int price, int back) {
            if (!mayBeSold(thing, buyer, back)) {
                return NO;
            }
            if (sales >= SALES) {
                return FULL;
            }
            int row = sales * FIELDS;
            rows[row + THING] = thing;
            rows[row + SELLER] = holders[thing];
            rows[row + BUYER] = buyer;
            rows[row + PRICE] = price;
            rows[row + HOUR] = hour;
            rows[row + BACK] = back;
            rows[row + STANDS] = 1;
            ahead[sales] = latest[thing];
            latest[thing] = sales;
            soldAt[thing] = hour;
            holders[thing] = buyer;
            sales++;
            return sales - 1;
        }

        int giveBack(int thing) {
            int sale = latest[thing];
            if (sale == NONE || field(sale, BUYER) != holders[thing] || field(sale, BACK) <= hour) {
                return NO;
            }
            rows[sale * FIELDS + STANDS] = 0;
            latest[thing] = ahead[sale];
            holders[thing] = field(sale, SELLER);
            return holders[thing];
        }

        int saleCount() {
            return sales;
        }

        int field(int sale, int what) {
            return rows[sale * FIELDS + what];
        }

        private boolean stands(int sale) {
            return field(sale, STANDS) == 1;
        }

        int standingCount() {
            int standing = 0;
            for (int sale = 0; sale < sales; sale++) {
                standing += field(sale, STANDS);
            }
            return standing;
        }

        int gainOf(int dealer) {
            int sum = 0;
            for (int sale = 0; sale < sales; sale++) {
                if (stands(sale) && field(sale, SELLER) == dealer) {
                    sum += field(sale, PRICE);
                }
                if (stands(sale) && field(sale, BUYER) == dealer) {
                    sum -= field(sale, PRICE);
                }
            }
            return sum;
        }

        int riseOf(int thing) {
            int first = NONE;
            int last = NONE;
            for (int sale = 0; sale < sales; sale++) {
                if (stands(sale) && field(sale, THING) == thing) {
                    first = first == NONE ? sale : first;
                    last = sale;
                }
            }
            return first == NONE ? 0 : field(last, PRICE) - field(first, PRICE);
        }

        long mixSales(long start) {
            long h = start;
            for (int i = 0; i < sales * FIELDS; i++) {
                h = mix(h, rows[i]);
            }
            return h;
        }
    }

    /** The lots, and how likely it is by chance that two so seldom bid together. */
    private static final class Auctions {
        private static final int HALF_BITS = 20;
        private static final long HALF = (1L << HALF_BITS) - 1;

        private final int[] there = new int[LOTS];
        private final int[] bid = new int[LOTS];
        private final int[] won = new int[LOTS];
        private int lots = 0;

        int addLot(int thereBits, int bidBits, int winner) {
            if (lots >= LOTS) {
                return FULL;
            }
            there[lots] = thereBits;
            bid[lots] = bidBits;
            won[lots] = winner;
            lots++;
            return lots - 1;
        }

        int lotCount() {
            return lots;
        }

        // The two low bits of what say whose bid a lot needs: of a, of b, of both, of neither.
        int tally(int a, int b, int what) {
            int present = 1 << a | 1 << b;
            int bidding = (what & 1) << a | (what >> 1 & 1) << b;
            int found = 0;
            for (int i = 0; i < lots; i++) {
                if ((there[i] & present) == present && (bid[i] & bidding) == bidding) {
                    found++;
                }
            }
            return found;
        }

        long allWays(int a, int b) {
            return choose(tally(a, b, 0), tally(a, b, 2));
        }

        long waysAsShy(int a, int b) {
            int n = tally(a, b, 0);
            int ofA = tally(a, b, 1);
            int ofB = tally(a, b, 2);
            int together = tally(a, b, 3);
            long ways = 0;
            for (int k = 0; k <= together; k++) {
                ways += choose(ofA, k) * choose(n - ofA, ofB - k);
            }
            return ways;
        }

        int shyestTwo() {
            int bestA = 0;
            int bestB = 1;
            // No chance is above 1 by 1, and the first two stay if all are like it.
            long bestAbove = 1;
            long bestBelow = 1;
            for (int a = 0; a < DEALERS; a++) {
                for (int b = a + 1; b < DEALERS; b++) {
                    long above = waysAsShy(a, b);
                    long below = allWays(a, b);
                    if (productBelow(above, bestBelow, bestAbove, below)) {
                        bestA = a;
                        bestB = b;
                        bestAbove = above;
                        bestBelow = below;
                    }
                }
            }
            return 8 * bestA + bestB;
        }

        private static long choose(int n, int k) {
            if (k < 0 || k > n) {
                return 0;
            }
            long ways = 1;
            for (int i = 1; i <= k; i++) {
                ways = ways * (n - k + i) / i;
            }
            return ways;
        }

        // Ways stay below 2^38 (40 over 20), so a product of two may pass a long:
        // it is compared in an upper and a lower part.
        private static boolean productBelow(long a, long b, long c, long d) {
            long upper1 = (a >> HALF_BITS) * b + ((a & HALF) * b >> HALF_BITS);
            long upper2 = (c >> HALF_BITS) * d + ((c & HALF) * d >> HALF_BITS);
            if (upper1 != upper2) {
                return upper1 < upper2;
            }
            return ((a & HALF) * b & HALF) < ((c & HALF) * d & HALF);
        }

        static long commonDivisor(long x, long y) {
            long a = x;
            long b = y;
            // Euclid's steps on numbers of 38 bits are fewer than 60.
            for (int step = 0; step < 100 && b != 0; step++) {
                long rest = a % b;
                a = b;
                b = rest;
            }
            return a;
        }

        long mixLots(long start) {
            long h = start;
            for (int i = 0; i < lots; i++) {
                h = mix(h, there[i]);
                h = mix(h, bid[i]);
                h = mix(h, won[i]);
            }
            return h;
        }
    }

    /** The list of what was stolen, the marks of things, and how both are joined. */
    private static final class Stolen {
        // A join is one number: the sum of scores, then a digit to the base of 13 for each entry
        // (12 less its thing, 0 for none). The greatest number is the greatest sum
        // and among like sums the first by things, none behind all.
        private static final int BASE = THINGS + 1;
        private static final int SUM_PLACE = 4826809;
        private static final int[] PLACES = {371293, 28561, 2197, 169, 13, 1};

        private final int[] entryMarks = new int[ENTRIES];
        private final int[] seen = new int[THINGS];
        private final int[] lacked = new int[THINGS];
        private final int[] best = new int[1 << JOINABLE];
        private final int[] worth = new int[JOINABLE];
        private int entries = 0;

        int addEntry(int marks) {
            if (entries >= ENTRIES) {
                return FULL;
            }
            entryMarks[entries] = marks;
            entries++;
            return entries - 1;
        }

        int entryCount() {
            return entries;
        }

        boolean hasEntry(int entry) {
            return within(entry, 0, entries - 1);
        }

        int changeMark(int thing, int mark, int how) {
            int bit = 1 << mark;
            int old = (seen[thing] & bit) != 0 ? SEEN : (lacked[thing] & bit) != 0 ? LACKED : UNKNOWN;
            seen[thing] = how == SEEN ? seen[thing] | bit : seen[thing] & ~bit;
            lacked[thing] = how == LACKED ? lacked[thing] | bit : lacked[thing] & ~bit;
            return old;
        }

        int scoreOf(int entry, int thing) {
            int marks = entryMarks[entry];
            return 2 * Integer.bitCount(marks & seen[thing])
                    - 3 * Integer.bitCount(marks & lacked[thing])
                    - Integer.bitCount(seen[thing] & ~marks);
        }

        boolean isJoinable() {
            return entries <= JOINABLE;
        }

        // best[set] is the greatest join of the things so far with entries of that set alone.
        int bestJoin(int things) {
            int sets = 1 << Math.min(entries, JOINABLE);
            Arrays.fill(best, 0);
            for (int thing = 0; thing < things; thing++) {
                weigh(thing);
                // Larger sets come first, for they build on smaller ones without this thing.
                for (int set = sets - 1; set > 0; set--) {
                    best[set] = bestWithThing(set);
                }
            }
            return best[sets - 1];
        }

        private void weigh(int thing) {
            for (int entry = 0; entry < JOINABLE; entry++) {
                int score = hasEntry(entry) ? scoreOf(entry, thing) : 0;
                worth[entry] = score > 0 ? score * SUM_PLACE + (THINGS - thing) * PLACES[entry] : 0;
            }
        }

        private int bestWithThing(int set) {
            int most = best[set];
            for (int entry = 0; entry < JOINABLE; entry++) {
                if ((set >> entry & 1) == 1) {
                    most = Math.max(most, best[set ^ 1 << entry] + worth[entry]);
                }
            }
            return most;
        }

        static int sumIn(int join) {
            return join / SUM_PLACE;
        }

        static int thingIn(int join, int entry) {
            if (!within(entry, 0, JOINABLE - 1)) {
                return NONE;
            }
            int digit = join / PLACES[entry] % BASE;
            return digit == 0 ? NONE : THINGS - digit;
        }

        long mixMarks(long start, int thing) {
            return mix(mix(start, seen[thing]), lacked[thing]);
        }

        long mixEntries(long start) {
            long h = start;
            for (int entry = 0; entry < entries; entry++) {
                h = mix(h, entryMarks[entry]);
            }
            return h;
        }
    }

    /** What each dealer owes each other one. */
    private static final class Debts {
        private final int[] owed = new int[DEALERS * DEALERS];

        int change(int a, int b, int v) {
            int old = owed[a * DEALERS + b];
            owed[a * DEALERS + b] = v;
            return old;
        }

        int total() {
            int sum = 0;
            for (int i = 0; i < owed.length; i++) {
                sum += owed[i];
            }
            return sum;
        }

        int netOf(int dealer) {
            return owedTo(dealer, ALL_DEALERS) - owedBy(dealer);
        }

        private int owedBy(int dealer) {
            int sum = 0;
            for (int other = 0; other < DEALERS; other++) {
                sum += owed[dealer * DEALERS + other];
            }
            return sum;
        }

        private int owedTo(int dealer, int payers) {
            int sum = 0;
            for (int other = 0; other < DEALERS; other++) {
                if ((payers >> other & 1) == 1) {
                    sum += owed[other * DEALERS + dealer];
                }
            }
            return sum;
        }

        int fallFrom(int dealer, int money) {
            int fallen = 1 << dealer;
            // Each round but the last fells one at least, so as many rounds as dealers are enough.
            for (int round = 0; round < DEALERS; round++) {
                fallen |= fallingNext(fallen, money);
            }
            return fallen;
        }

        private int fallingNext(int fallen, int money) {
            int falling = 0;
            for (int dealer = 0; dealer < DEALERS; dealer++) {
                boolean stillUp = (fallen >> dealer & 1) == 0;
                if (stillUp && money + owedTo(dealer, ~fallen) < owedBy(dealer)) {
                    falling |= 1 << dealer;
                }
            }
            return falling;
        }
    }
}
