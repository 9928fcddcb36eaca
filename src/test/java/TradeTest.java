/** Promises 8 to 15: the fair. */
public final class TradeTest {
    private static final int BAD = Check.BAD, NONE = Check.NONE, NO = Check.NO, FULL = Check.FULL;
    private static final int BAD_SUM = Check.BAD_SUM, MIN = Check.MIN, MAX = Check.MAX;
    private static final Check c = new Check("TradeTest");

    public static void main(String[] args) {
        hold();
        holdCutsOldTerms();
        hours();
        sell();
        sellRefusedInOrder();
        sellFull();
        back();
        backInChain();
        sale();
        gainAndRose();
        c.end();
    }

    private static void hold() {
        DawnFair x = Check.withThings(2);
        c.due("holder at first", x.holder(0), NONE);
        c.due("hold", x.hold(0, 7), NONE);
        c.due("holder", x.holder(0), 7);
        c.due("holder of another", x.holder(1), NONE);
        c.due("hold again", x.hold(0, 0), 7);
        c.due("hold by none", x.hold(0, NONE), 0);
        c.due("holder none", x.holder(0), NONE);
        c.due("hold after none", x.hold(0, 3), NONE);
        long before = x.digest();
        int[][] bad = {{-1, 0}, {2, 0}, {0, -2}, {0, 8}, {MAX, 0}, {MIN, 0}, {0, MAX}, {0, MIN}};
        for (int[] b : bad) {
            c.due("hold BAD " + b[0] + " " + b[1], x.hold(b[0], b[1]), BAD);
        }
        for (int b : new int[] {-1, 2, 12, MAX, MIN}) {
            c.due("holder BAD", x.holder(b), BAD);
        }
        c.due("refused hold", x.digest(), before);
        c.due("hold is no sale", x.count(1), 0);
    }

    private static void holdCutsOldTerms() {
        DawnFair x = Check.withThings(1);
        x.hold(0, 1);
        x.sell(0, 2, 50, 100);
        c.due("hold by the buyer himself", x.hold(0, 2), 2);
        c.due("back after hold", x.back(0), NO);
        c.due("the sale stands", x.sale(0, 6), 1);
        c.due("its gain stands", x.gain(1), 50);
        x.hours(1);
        c.due("sell", x.sell(0, 3, 60, 100), 1);
        c.due("back of what was sold since", x.back(0), 2);
        c.due("none is ahead of it", x.back(0), NO);
        c.due("who holds it", x.holder(0), 2);
        c.due("sales that stand", x.count(2), 1);
        x.hold(0, NONE);
        c.due("back while none holds", x.back(0), NO);
        x.hours(1);
        c.due("sold by none", x.sell(0, 3, 60, 0), NO);
    }

    private static void hours() {
        DawnFair x = new DawnFair();
        c.due("hours(1)", x.hours(1), 5);
        c.due("hours(20)", x.hours(20), 25);
        for (int bad : new int[] {0, -1, 21, MAX, MIN}) {
            c.due("hours BAD", x.hours(bad), BAD);
        }
        c.due("THE HOUR", x.count(5), 25);
    }

    private static void sell() {
        DawnFair x = Check.withThings(3);
        x.hold(0, 1);
        x.hold(1, 1);
        c.due("sell", x.sell(0, 2, 0, 0), 0);
        c.due("holder", x.holder(0), 2);
        c.due("sell another this hour", x.sell(1, 0, 100000, 2000), 1);
        c.due("sold this hour", x.sell(0, 3, 5, 0), NO);
        c.due("back, sold this hour", x.back(1), 1);
        c.due("sold this hour, given back", x.sell(1, 3, 5, 0), NO);
        x.hold(1, 4);
        c.due("sold this hour, held by another", x.sell(1, 3, 5, 0), NO);
        x.hours(1);
        c.due("sold an hour later", x.sell(1, 3, 5, 6), 2);
        c.due("hour of it", x.sale(2, 4), 5);
        c.due("back at THE HOUR", x.sell(0, 3, 5, 5), NO);
        c.due("back before THE HOUR", x.sell(0, 3, 5, 1), NO);
        c.due("held by none", x.sell(2, 3, 5, 0), NO);
        c.due("the buyer's own", x.sell(0, 2, 5, 0), NO);
        c.due("sales", x.count(1), 3);
        long before = x.digest();
        int[][] bad = {{-1, 3, 5, 0}, {3, 3, 5, 0}, {0, -1, 5, 0}, {0, 8, 5, 0}, {0, 3, -1, 0}, {0, 3, 100001, 0},
            {0, 3, 5, -1}, {0, 3, 5, 2001}, {MAX, 3, 5, 0}, {MIN, 3, 5, 0}, {0, MAX, 5, 0}, {0, MIN, 5, 0},
            {0, 3, MAX, 0}, {0, 3, MIN, 0}, {0, 3, 5, MAX}, {0, 3, 5, MIN}};
        for (int[] b : bad) {
            c.due("sell BAD " + b[0] + " " + b[1] + " " + b[2] + " " + b[3], x.sell(b[0], b[1], b[2], b[3]), BAD);
        }
        c.due("refused sell", x.digest(), before);
        c.due("a refused sale is none this hour", x.sell(0, 3, 5, 0), 3);
    }

    private static void sellRefusedInOrder() {
        DawnFair x = Check.withThings(1);
        c.due("BAD ahead of NO", x.sell(0, 3, 100001, 0), BAD);
        c.due("BAD ahead of NO", x.sell(0, 3, 1, 2001), BAD);
        c.due("NO", x.sell(0, 3, 1, 0), NO);
    }

    private static void sellFull() {
        DawnFair x = Check.withThings(12);
        for (int i = 0; i < 12; i++) {
            x.hold(i, 0);
        }
        int made = 0;
        for (int hour = 4; made < 80; hour++) {
            for (int thing = 0; thing < 11 && made < 80; thing++) {
                c.due("sell", x.sell(thing, 1 - x.holder(thing), made, made == 79 ? 100 : 0), made);
                made++;
            }
            x.hours(1);
        }
        long before = x.digest();
        c.due("FULL", x.sell(11, 1, 1, 0), FULL);
        c.due("BAD ahead of FULL", x.sell(11, 8, 1, 0), BAD);
        c.due("NO ahead of FULL", x.sell(11, 0, 1, 0), NO);
        c.due("refused sell", x.digest(), before);
        c.due("holder after FULL", x.holder(11), 0);
        c.due("sales", x.count(1), 80);
        c.due("all stand", x.count(2), 80);
        c.due("rose over sales 0 and 77", x.rose(0), 77);
        c.due("rose of one that was never sold", x.rose(11), 0);
        c.due("gains even out", x.gain(0) + x.gain(1), 0);
        c.due("back of the last", x.back(x.sale(79, 0)), x.sale(79, 1));
        c.due("FULL, though one does not stand", x.sell(11, 1, 1, 0), FULL);
        c.due("the last sale", x.sale(79, 3), 79);
        c.due("not so many", x.sale(80, 3), NONE);
    }

    private static void back() {
        DawnFair x = Check.withThings(2);
        for (int bad : new int[] {-1, 2, 12, MAX, MIN}) {
            c.due("back BAD", x.back(bad), BAD);
        }
        c.due("back, never sold", x.back(0), NO);
        x.hold(0, 1);
        c.due("back, held but never sold", x.back(0), NO);
        x.sell(0, 2, 70, 6);
        x.hours(1);
        c.due("back below b", x.back(0), 1);
        c.due("holder", x.holder(0), 1);
        c.due("it does not stand", x.sale(0, 6), 0);
        c.due("back again", x.back(0), NO);
        x.sell(0, 3, 70, 6);
        x.hours(1);
        long before = x.digest();
        c.due("back at b", x.back(0), NO);
        c.due("refused back", x.digest(), before);
        x.sell(0, 4, 80, 0);
        c.due("back without terms", x.back(0), NO);
        c.due("holder", x.holder(0), 4);
    }

    private static void backInChain() {
        DawnFair x = Check.withThings(2);
        x.hold(0, 1);
        x.hold(1, 1);
        x.sell(0, 2, 10, 40);
        x.sell(1, 2, 10, 40);
        x.hours(1);
        x.sell(0, 3, 20, 0);
        x.hours(1);
        x.sell(0, 4, 30, 40);
        c.due("back to 3", x.back(0), 3);
        c.due("then one without terms is the latest", x.back(0), NO);
        c.due("another thing comes back by its own", x.back(1), 1);
        x.hours(1);
        x.sell(0, 5, 25, 40);
        x.hours(1);
        x.sell(0, 6, 35, 9);
        c.due("back to 5", x.back(0), 5);
        x.hours(1);
        c.due("back to 3 again", x.back(0), 3);
        c.due("none further", x.back(0), NO);
        c.due("sales that stand", x.count(2), 2);
        c.due("rose", x.rose(0), 10);
    }

    private static void sale() {
        DawnFair x = Check.withThings(5);
        x.hold(4, 6);
        x.hours(3);
        x.sell(4, 5, 12345, 999);
        int[] want = {4, 6, 5, 12345, 7, 999, 1};
        for (int what = 0; what < 7; what++) {
            c.due("sale(0, " + what + ")", x.sale(0, what), want[what]);
        }
        x.back(4);
        want[6] = 0;
        for (int what = 0; what < 7; what++) {
            c.due("given back sale(0, " + what + ")", x.sale(0, what), want[what]);
        }
        c.due("not so many", x.sale(1, 0), NONE);
        c.due("not so many", x.sale(80, 0), NONE);
        c.due("not so many", x.sale(MAX, 6), NONE);
        c.due("BAD", x.sale(0, -1), BAD);
        c.due("BAD", x.sale(0, 7), BAD);
        c.due("BAD", x.sale(0, MAX), BAD);
        c.due("BAD", x.sale(0, MIN), BAD);
        c.due("BAD", x.sale(-1, 0), BAD);
        c.due("BAD", x.sale(MIN, 0), BAD);
        c.due("BAD ahead of NONE", x.sale(1, 7), BAD);
    }

    private static void gainAndRose() {
        DawnFair x = Check.withThings(2);
        x.hold(0, 0);
        x.hold(1, 1);
        c.due("rose without a sale", x.rose(0), 0);
        x.sell(0, 1, 100, 0);
        c.due("rose of one sale", x.rose(0), 0);
        x.sell(1, 0, 7, 50);
        x.hours(1);
        x.sell(0, 2, 300, 0);
        x.hours(1);
        x.sell(0, 3, 40, 50);
        c.due("rose, the last less the first", x.rose(0), -60);
        c.due("rose of another", x.rose(1), 0);
        c.due("gain(0)", x.gain(0), 93);
        c.due("gain(1)", x.gain(1), 207);
        c.due("gain(2)", x.gain(2), -260);
        c.due("gain(3)", x.gain(3), -40);
        c.due("gain(4)", x.gain(4), 0);
        x.back(0);
        x.back(1);
        c.due("rose after back", x.rose(0), 200);
        c.due("gain(0) after back", x.gain(0), 100);
        c.due("gain(1) after back", x.gain(1), 200);
        c.due("gain(2) after back", x.gain(2), -300);
        c.due("gain(3) after back", x.gain(3), 0);
        x.hold(0, NONE);
        c.due("rose after hold", x.rose(0), 200);
        for (int bad : new int[] {-1, 8, MAX, MIN}) {
            c.due("gain BAD", x.gain(bad), BAD_SUM);
        }
        for (int bad : new int[] {-1, 2, 12, MAX, MIN}) {
            c.due("rose BAD", x.rose(bad), BAD_SUM);
        }
    }
}
