import java.math.BigInteger;
import java.util.ArrayList;
import java.util.List;

/** The document once more, by other and slower ways, for ModelTest to compare with. */
final class SlowFair {
    private static final int NONE = Check.NONE, BAD = Check.BAD, NO = Check.NO, FULL = Check.FULL;

    private static final class Thing {
        int[] works;
        int holder = NONE;
        int[] marks = new int[12];
        List<Sale> chain = new ArrayList<>();
    }

    private static final class Sale {
        Thing of;
        int thing, seller, buyer, price, hour, back;
        boolean stands = true;
    }

    private final int[][] years = new int[10][];
    private final List<Thing> things = new ArrayList<>();
    private final List<Sale> sales = new ArrayList<>();
    private final List<int[]> lots = new ArrayList<>();
    private final List<Integer> entries = new ArrayList<>();
    private final int[][] debts = new int[8][8];
    private int hour = 4;

    SlowFair() {
        for (int w = 0; w < 10; w++) {
            years[w] = new int[] {1600, 1950};
        }
    }

    private static boolean out(int x, int least, int most) {
        return x < least || x > most;
    }

    private boolean noThing(int thing) {
        return out(thing, 0, things.size() - 1);
    }

    int work(int w, int from, int to) {
        if (out(w, 0, 9) || out(from, 1600, 1950) || out(to, 1600, 1950) || from > to) {
            return BAD;
        }
        years[w] = new int[] {from, to};
        return 1;
    }

    int thing(int parts) {
        if (out(parts, 1, 5)) {
            return BAD;
        }
        if (things.size() == 12) {
            return FULL;
        }
        Thing made = new Thing();
        made.works = new int[parts];
        things.add(made);
        return things.size() - 1;
    }

    private boolean noPart(int thing, int part) {
        return noThing(thing) || out(part, 0, things.get(thing).works.length - 1);
    }

    int part(int thing, int part, int works) {
        if (noPart(thing, part) || out(works, 0, 1023)) {
            return BAD;
        }
        int old = things.get(thing).works[part];
        things.get(thing).works[part] = works;
        return old;
    }

    private boolean isYear(int year, int works) {
        for (int w = 0; w < 10; w++) {
            if ((works >> w & 1) == 1 && out(year, years[w][0], years[w][1])) {
                return false;
            }
        }
        return true;
    }

    private int yearOf(Thing thing, int kept, int what) {
        int found = NONE;
        for (int year = 1600; year <= 1950; year++) {
            boolean inAll = true;
            for (int part = 0; part < thing.works.length; part++) {
                inAll &= (kept >> part & 1) == 0 || isYear(year, thing.works[part]);
            }
            if (inAll && (what == 1 || found == NONE)) {
                found = year;
            }
        }
        return found;
    }

    int span(int thing, int part, int what) {
        if (noPart(thing, part) || out(what, 0, 1)) {
            return BAD;
        }
        return yearOf(things.get(thing), 1 << part, what);
    }

    int apart(int thing) {
        if (noThing(thing)) {
            return BAD;
        }
        int parts = things.get(thing).works.length;
        for (int few = 0; few < parts; few++) {
            for (int set = 0; set < 1 << parts; set++) {
                int kept = (1 << parts) - 1 - set;
                if (Integer.bitCount(set) == few && yearOf(things.get(thing), kept, 0) != NONE) {
                    return set;
                }
            }
        }
        return NONE;
    }

    int date(int thing, int what) {
        if (noThing(thing) || out(what, 0, 1)) {
            return BAD;
        }
        int apart = apart(thing);
        return apart == NONE ? NONE : yearOf(things.get(thing), ~apart, what);
    }

    int hold(int thing, int dealer) {
        if (noThing(thing) || out(dealer, -1, 7)) {
            return BAD;
        }
        Thing t = things.get(thing);
        int old = t.holder;
        t.holder = dealer;
        t.chain.clear();
        return old;
    }

    int holder(int thing) {
        return noThing(thing) ? BAD : things.get(thing).holder;
    }

    int hours(int n) {
        if (out(n, 1, 20)) {
            return BAD;
        }
        return hour += n;
    }

    int sell(int thing, int buyer, int price, int back) {
        if (noThing(thing) || out(buyer, 0, 7) || out(price, 0, 100000) || out(back, 0, 2000)) {
            return BAD;
        }
        Thing t = things.get(thing);
        if (t.holder == NONE || t.holder == buyer || back != 0 && back <= hour) {
            return NO;
        }
        for (Sale s : sales) {
            if (s.of == t && s.hour == hour) {
                return NO;
            }
        }
        if (sales.size() == 80) {
            return FULL;
        }
        Sale s = new Sale();
        s.of = t;
        s.thing = thing;
        s.seller = t.holder;
        s.buyer = buyer;
        s.price = price;
        s.hour = hour;
        s.back = back;
        t.holder = buyer;
        t.chain.add(s);
        sales.add(s);
        return sales.size() - 1;
    }

    int back(int thing) {
        if (noThing(thing)) {
            return BAD;
        }
        Thing t = things.get(thing);
        if (t.chain.isEmpty()) {
            return NO;
        }
        Sale s = t.chain.get(t.chain.size() - 1);
        if (s.buyer != t.holder || s.back <= hour) {
            return NO;
        }
        t.chain.remove(t.chain.size() - 1);
        s.stands = false;
        t.holder = s.seller;
        return t.holder;
    }

    int sale(int i, int what) {
        if (i < 0 || out(what, 0, 6)) {
            return BAD;
        }
        if (i >= sales.size()) {
            return NONE;
        }
        Sale s = sales.get(i);
        return new int[] {s.thing, s.seller, s.buyer, s.price, s.hour, s.back, s.stands ? 1 : 0}[what];
    }

    int gain(int dealer) {
        if (out(dealer, 0, 7)) {
            return Check.BAD_SUM;
        }
        int sum = 0;
        for (Sale s : sales) {
            if (s.stands) {
                sum += s.seller == dealer ? s.price : s.buyer == dealer ? -s.price : 0;
            }
        }
        return sum;
    }

    int rose(int thing) {
        if (noThing(thing)) {
            return Check.BAD_SUM;
        }
        List<Integer> prices = new ArrayList<>();
        for (Sale s : sales) {
            if (s.stands && s.thing == thing) {
                prices.add(s.price);
            }
        }
        return prices.size() < 2 ? 0 : prices.get(prices.size() - 1) - prices.get(0);
    }

    int lot(int there, int bid, int won) {
        if (out(there, 0, 255) || out(bid, 0, 255) || (there | bid) != there || out(won, -1, 7)) {
            return BAD;
        }
        if (bid == 0 ? won != NONE : won == NONE || (bid | 1 << won) != bid) {
            return BAD;
        }
        if (lots.size() == 40) {
            return FULL;
        }
        lots.add(new int[] {there, bid, won});
        return lots.size() - 1;
    }

    private static boolean notTwo(int a, int b) {
        return out(a, 0, 7) || out(b, 0, 7) || a == b;
    }

    private static boolean has(int bits, int one) {
        return (bits >> one & 1) == 1;
    }

    int both(int a, int b, int what) {
        if (notTwo(a, b) || out(what, 0, 3)) {
            return BAD;
        }
        int[] found = new int[4];
        for (int[] lot : lots) {
            if (has(lot[0], a) && has(lot[0], b)) {
                found[0]++;
                found[1] += has(lot[1], a) ? 1 : 0;
                found[2] += has(lot[1], b) ? 1 : 0;
                found[3] += has(lot[1], a) && has(lot[1], b) ? 1 : 0;
            }
        }
        return found[what];
    }

    private static BigInteger factorial(int n) {
        BigInteger f = BigInteger.ONE;
        for (int i = 2; i <= n; i++) {
            f = f.multiply(BigInteger.valueOf(i));
        }
        return f;
    }

    private static BigInteger over(int n, int k) {
        return out(k, 0, n) ? BigInteger.ZERO : factorial(n).divide(factorial(k)).divide(factorial(n - k));
    }

    private BigInteger[] fraction(int a, int b) {
        int n = both(a, b, 0);
        BigInteger below = over(n, both(a, b, 2));
        BigInteger above = BigInteger.ZERO;
        for (int k = 0; k <= both(a, b, 3); k++) {
            above = above.add(over(both(a, b, 1), k).multiply(over(n - both(a, b, 1), both(a, b, 2) - k)));
        }
        BigInteger shared = above.gcd(below);
        return new BigInteger[] {above.divide(shared), below.divide(shared)};
    }

    long chance(int a, int b, int what) {
        return notTwo(a, b) || out(what, 0, 1) ? BAD : fraction(a, b)[what].longValueExact();
    }

    int shyest() {
        int best = NONE;
        BigInteger[] least = null;
        for (int pair = 0; pair < 64; pair++) {
            if (pair / 8 < pair % 8) {
                BigInteger[] f = fraction(pair / 8, pair % 8);
                if (least == null || f[0].multiply(least[1]).compareTo(least[0].multiply(f[1])) < 0) {
                    least = f;
                    best = pair;
                }
            }
        }
        return best;
    }

    int inside(int ring, int p, int q, int what) {
        if (out(ring, 0, 255) || Integer.bitCount(ring) < 2 || out(p, 0, 100000) || out(q, 0, 100000) || q < p
                || out(what, 0, 1)) {
            return BAD;
        }
        int rest = q - p;
        int each = 0;
        while (rest >= Integer.bitCount(ring)) {
            rest -= Integer.bitCount(ring);
            each++;
        }
        return what == 0 ? each : each + rest;
    }

    int entry(int marks) {
        if (out(marks, 0, 4095)) {
            return BAD;
        }
        if (entries.size() == 10) {
            return FULL;
        }
        entries.add(marks);
        return entries.size() - 1;
    }

    int mark(int thing, int mark, int how) {
        if (noThing(thing) || out(mark, 0, 11) || out(how, 0, 2)) {
            return BAD;
        }
        int old = things.get(thing).marks[mark];
        things.get(thing).marks[mark] = how;
        return old;
    }

    int score(int entry, int thing) {
        if (out(entry, 0, entries.size() - 1) || noThing(thing)) {
            return Check.BAD_SCORE;
        }
        int sum = 0;
        for (int mark = 0; mark < 12; mark++) {
            int how = things.get(thing).marks[mark];
            boolean own = has(entries.get(entry), mark);
            sum += own ? how == 1 ? 2 : how == 2 ? -3 : 0 : how == 1 ? -1 : 0;
        }
        return sum;
    }

    private int bestSum;
    private int[] bestThings;

    /** All joins in order of things, none last: so the first of the greatest is the one. */
    private void search(int entry, int used, int sum, int[] chosen) {
        if (entry == entries.size()) {
            if (sum > bestSum) {
                bestSum = sum;
                bestThings = chosen.clone();
            }
            return;
        }
        for (int thing = 0; thing < things.size(); thing++) {
            if (!has(used, thing) && score(entry, thing) > 0) {
                chosen[entry] = thing;
                search(entry + 1, used | 1 << thing, sum + score(entry, thing), chosen);
            }
        }
        chosen[entry] = NONE;
        search(entry + 1, used, sum, chosen);
    }

    int joined() {
        if (entries.size() > 6) {
            return NO;
        }
        bestSum = -1;
        search(0, 0, 0, new int[6]);
        return bestSum;
    }

    int joinedTo(int entry) {
        if (out(entry, 0, entries.size() - 1)) {
            return BAD;
        }
        return joined() == NO ? NO : bestThings[entry];
    }

    int owe(int a, int b, int v) {
        if (notTwo(a, b) || out(v, 0, 10000)) {
            return BAD;
        }
        int old = debts[a][b];
        debts[a][b] = v;
        return old;
    }

    int net(int dealer) {
        if (out(dealer, 0, 7)) {
            return Check.BAD_SUM;
        }
        int sum = 0;
        for (int i = 0; i < 8; i++) {
            sum += debts[i][dealer] - debts[dealer][i];
        }
        return sum;
    }

    int fall(int dealer, int money) {
        if (out(dealer, 0, 7) || out(money, 0, 100000)) {
            return BAD;
        }
        boolean[] fallen = new boolean[8];
        fallen[dealer] = true;
        boolean more = true;
        while (more) {
            more = false;
            boolean[] next = fallen.clone();
            for (int d = 0; d < 8; d++) {
                int has = money;
                for (int i = 0; i < 8; i++) {
                    has += (fallen[i] ? 0 : debts[i][d]) - debts[d][i];
                }
                if (!fallen[d] && has < 0) {
                    next[d] = true;
                    more = true;
                }
            }
            fallen = next;
        }
        int bits = 0;
        for (int d = 0; d < 8; d++) {
            bits += fallen[d] ? 1 << d : 0;
        }
        return bits;
    }

    int count(int what) {
        if (out(what, 0, 6)) {
            return BAD;
        }
        int standing = 0;
        for (Sale s : sales) {
            standing += s.stands ? 1 : 0;
        }
        int owed = 0;
        for (int[] row : debts) {
            for (int v : row) {
                owed += v;
            }
        }
        return new int[] {things.size(), sales.size(), standing, lots.size(), entries.size(), hour, owed}[what];
    }

    long digest() {
        List<Integer> values = new ArrayList<>();
        for (int what = 0; what < 7; what++) {
            values.add(count(what));
        }
        for (int[] y : years) {
            values.add(y[0]);
            values.add(y[1]);
        }
        for (Thing t : things) {
            values.add(t.works.length);
            for (int works : t.works) {
                values.add(works);
            }
            values.add(t.holder);
            int[] bits = new int[3];
            for (int mark = 0; mark < 12; mark++) {
                bits[t.marks[mark]] |= 1 << mark;
            }
            values.add(bits[1]);
            values.add(bits[2]);
        }
        for (int i = 0; i < sales.size(); i++) {
            for (int what = 0; what < 7; what++) {
                values.add(sale(i, what));
            }
        }
        for (int[] lot : lots) {
            values.add(lot[0]);
            values.add(lot[1]);
            values.add(lot[2]);
        }
        values.addAll(entries);
        for (int d = 0; d < 8; d++) {
            values.add(gain(d));
            values.add(net(d));
        }
        long h = 239;
        for (int v : values) {
            h = 31 * h + v;
        }
        return h;
    }
}
