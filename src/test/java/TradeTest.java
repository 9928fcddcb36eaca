/** Promises 8 to 15: the fair. */
public final class TradeTest {
    private static final int BAD = Check.BAD, NONE = Check.NONE, NO = Check.NO, FULL = Check.FULL;
    private static final int BAD_SUM = Check.BAD_SUM, MIN = Check.MIN, MAX = Check.MAX;
    private static final Check c = new Check("TradeTest");

    public static void main(String[] args) {
        holdAnswersWhoDid();
        holdByADealerOrNone();
        holdBadThing();
        holdIsNoSale();
        holdLeavesNoLatest();
        holdRefusedKeepsTheLatest();
        holder();
        holderBad();
        hours();
        hoursBad();
        hoursOf512Calls();
        sellNumbers();
        sellPrice();
        sellBack();
        sellThingAndBuyer();
        sellHeldByNobody();
        sellTheBuyersOwn();
        sellBackAboveTheHour();
        sellBackAtTheGreatest();
        sellOnceAnHour();
        sellOnceAnHourAlsoIfGivenBack();
        sellFull();
        sellRefusedInOrder();
        sellRefusedIsNoSale();
        backToTheSeller();
        backWhileTheBuyerHolds();
        backAboveTheHour();
        backWithoutTerms();
        backInAChain();
        backNo();
        backBad();
        sale();
        saleNotSoMany();
        saleBad();
        gain();
        gainOfMany();
        gainBad();
        rose();
        roseFewerThanTwo();
        roseBad();
        c.endOf(8, 15);
    }

    /** Things 0 .. n - 1, all held by dealer 1. */
    private static DawnFair held(int n) {
        DawnFair x = Check.withThings(n);
        for (int i = 0; i < n; i++) {
            x.hold(i, 1);
        }
        return x;
    }

    private static Check.Call selling(DawnFair x) {
        return n -> x.sell(n[0], n[1], n[2], n[3]);
    }

    private static void holdAnswersWhoDid() {
        c.promise(8, "who did (NONE)");
        DawnFair x = Check.withThings(2);
        c.due("none did", x.hold(0, 7), NONE);
        c.due("7 did", x.hold(0, 0), 7);
        c.due("0 did", x.hold(0, 0), 0);
        c.due("of another none did", x.hold(1, 3), NONE);
        x.sell(0, 5, 10, 0);
        c.due("the buyer did", x.hold(0, 4), 5);
    }

    private static void holdByADealerOrNone() {
        c.promise(8, "or none does (NONE)");
        DawnFair x = held(2);
        c.due("by none", x.hold(0, NONE), 1);
        c.due("then none holds it", x.holder(0), NONE);
        c.due("by none again", x.hold(0, NONE), NONE);
        c.refused(x, n -> x.hold(n[0], n[1]), BAD, Check.told(1, 0), 1, -2, 8, 32, MIN, MAX);
        c.due("by the last dealer", x.hold(1, 7), 1);
        c.due("he holds it", x.holder(1), 7);
        c.due("by the first dealer", x.hold(1, 0), 7);
        c.due("he holds it", x.holder(1), 0);
    }

    private static void holdBadThing() {
        c.promise(8, "BAD.");
        c.due("no thing at all", new DawnFair().hold(0, 1), BAD);
        DawnFair x = held(2);
        c.refused(x, n -> x.hold(n[0], n[1]), BAD, Check.told(0, 3), 0, -1, 2, 11, 12, MIN, MAX);
        c.refused(x, n -> x.hold(n[0], n[1]), BAD, Check.told(0, NONE), 0, -1, 2, 11, 12, MIN, MAX);
    }

    private static void holdIsNoSale() {
        c.promise(8, "without a SALE");
        DawnFair x = held(1);
        c.due("no sale", x.count(1), 0);
        c.due("sold in the hour of the hold", x.sell(0, 2, 10, 0), 0);
        x.hold(0, 3);
        c.due("still sold this hour", x.sell(0, 4, 10, 0), NO);
        x.hours(1);
        c.due("sold by who holds it now", x.sell(0, 4, 10, 0), 1);
        c.due("that seller", x.sale(1, 1), 3);
    }

    private static void holdLeavesNoLatest() {
        c.promise(8, "SALES of it stand, but none of them is the latest then.");
        DawnFair x = held(2);
        x.sell(0, 2, 50, 100);
        x.sell(1, 2, 70, 100);
        c.due("hold by the buyer himself", x.hold(0, 2), 2);
        c.due("not given back", x.back(0), NO);
        c.due("the sale stands", x.sale(0, 6), 1);
        c.due("its price counts", x.gain(1), 120);
        c.due("another thing's is the latest yet", x.back(1), 1);
        x.hours(1);
        c.due("sold since", x.sell(0, 3, 60, 100), 2);
        c.due("given back what was sold since", x.back(0), 2);
        c.due("not what was sold ahead of the hold", x.back(0), NO);
        c.due("who holds it", x.holder(0), 2);
        c.due("sales that stand", x.count(2), 1);
        x.hold(0, NONE);
        c.due("not given back by none", x.back(0), NO);
    }

    private static void holdRefusedKeepsTheLatest() {
        c.promise(8, "Refused, changing nothing");
        DawnFair x = held(1);
        x.sell(0, 2, 50, 100);
        x.hold(0, 8);
        x.hold(0, -2);
        x.hold(1, 2);
        c.due("the latest can be given back", x.back(0), 1);
    }

    private static void holder() {
        c.promise(9, "Each THING is HELD by one, or by none (at first).");
        DawnFair x = Check.withThings(12);
        for (int i = 0; i < 12; i++) {
            c.due("none at first", x.holder(i), NONE);
            x.hold(i, i % 8);
        }
        for (int i = 0; i < 12; i++) {
            c.due("holder", x.holder(i), i % 8);
        }
        x.sell(11, 6, 10, 9);
        c.due("the buyer", x.holder(11), 6);
        x.back(11);
        c.due("the seller", x.holder(11), 3);
        x.hold(11, NONE);
        c.due("none again", x.holder(11), NONE);
    }

    private static void holderBad() {
        c.promise(9, "NONE; BAD.");
        c.due("no thing at all", new DawnFair().holder(0), BAD);
        DawnFair x = held(2);
        c.refused(x, n -> x.holder(n[0]), BAD, Check.told(0), 0, -1, 2, 11, 12, MIN, MAX);
    }

    private static void hours() {
        c.promise(10, "n hours (1 .. 20) go: THE HOUR.");
        DawnFair x = new DawnFair();
        c.due("the fewest", x.hours(1), 5);
        c.due("the most", x.hours(20), 25);
        c.due("THE HOUR", x.count(5), 25);
    }

    private static void hoursBad() {
        c.promise(10, "BAD.");
        DawnFair x = new DawnFair();
        c.refused(x, n -> x.hours(n[0]), BAD, Check.told(1), 0, 0, -1, 21, MIN, MAX);
        c.due("THE HOUR", x.count(5), 4);
    }

    private static void hoursOf512Calls() {
        c.promise(10, "An object is used for at most 512 calls after it has been made");
        DawnFair x = new DawnFair();
        for (int call = 1; call <= 512; call++) {
            c.due("call " + call, x.hours(20), 4 + 20 * call);
        }
    }

    private static void sellNumbers() {
        c.promise(11, "A SALE to a DEALER: its number.");
        DawnFair x = held(3);
        c.due("the first", x.sell(2, 0, 10, 0), 0);
        c.due("the second", x.sell(0, 7, 10, 0), 1);
        c.due("the third", x.sell(1, 2, 10, 0), 2);
        c.due("who bought it holds it", x.holder(2), 0);
        c.due("who bought it holds it", x.holder(0), 7);
        c.due("sales", x.count(1), 3);
    }

    private static void sellPrice() {
        c.promise(11, "BAD: price 0 .. 100000");
        DawnFair x = held(2);
        c.refused(x, selling(x), BAD, Check.told(0, 2, 5, 0), 2, -1, 100001, MIN, MAX);
        c.due("for nothing", x.sell(0, 2, 0, 0), 0);
        c.due("for the most", x.sell(1, 2, 100000, 0), 1);
        c.due("its price", x.sale(1, 3), 100000);
    }

    private static void sellBack() {
        c.promise(11, "back 0 .. 2000");
        DawnFair x = held(2);
        c.refused(x, selling(x), BAD, Check.told(0, 2, 5, 0), 3, -1, 2001, MIN, MAX);
        c.due("the least", x.sell(0, 2, 5, 0), 0);
        c.due("the greatest", x.sell(1, 2, 5, 2000), 1);
        c.due("its back", x.sale(1, 5), 2000);
    }

    private static void sellThingAndBuyer() {
        c.promise(11, "DEALERS 0 .. 7.");
        DawnFair x = held(2);
        c.refused(x, selling(x), BAD, Check.told(0, 2, 5, 0), 1, NONE, -2, 8, 32, MIN, MAX);
        c.refused(x, selling(x), BAD, Check.told(0, 2, 5, 0), 0, -1, 2, 11, 12, MIN, MAX);
        c.due("no thing at all", new DawnFair().sell(0, 2, 5, 0), BAD);
        c.due("to the first", x.sell(0, 0, 5, 0), 0);
        c.due("to the last", x.sell(1, 7, 5, 0), 1);
    }

    private static void sellHeldByNobody() {
        c.promise(11, "NO: nobody HOLDS it");
        DawnFair x = Check.withThings(1);
        c.refused(x, selling(x), NO, Check.told(0, 2, 5, 0), 1, 0, 2, 7);
        x.hold(0, 1);
        x.hold(0, NONE);
        c.refused(x, selling(x), NO, Check.told(0, 2, 5, 0), 1, 0, 1, 7);
    }

    private static void sellTheBuyersOwn() {
        c.promise(11, "it is the buyer's");
        DawnFair x = held(1);
        c.refused(x, selling(x), NO, Check.told(0, 1, 5, 0), 3, 0, 5, 2000);
        x.sell(0, 2, 5, 0);
        x.hours(1);
        c.due("to who bought it", x.sell(0, 2, 5, 0), NO);
        c.due("to who sold it", x.sell(0, 1, 5, 0), 1);
    }

    private static void sellBackAboveTheHour() {
        c.promise(11, "back is not 0 nor above THE HOUR");
        DawnFair x = held(2);
        c.refused(x, selling(x), NO, Check.told(0, 2, 5, 0), 3, 1, 2, 3, 4);
        c.due("the next hour", x.sell(0, 2, 5, 5), 0);
        x.hours(20);
        c.refused(x, selling(x), NO, Check.told(1, 2, 5, 0), 3, 1, 5, 23, 24);
        c.due("the next hour", x.sell(1, 2, 5, 25), 1);
    }

    private static void sellBackAtTheGreatest() {
        c.promise(11, "perhaps BACK by an hour b above THE HOUR (0: not)");
        DawnFair x = held(2);
        for (int i = 0; i < 99; i++) {
            x.hours(20);
        }
        c.due("THE HOUR", x.hours(15), 1999);
        c.due("the greatest back is above it", x.sell(0, 2, 5, 2000), 0);
        c.due("THE HOUR", x.hours(1), 2000);
        c.due("the greatest back is not above it", x.sell(0, 3, 5, 2000), NO);
        c.due("nor more", x.sell(0, 3, 5, 2001), BAD);
        c.due("still sold without it", x.sell(0, 3, 5, 0), 1);
        c.due("THE HOUR", x.hours(1), 2001);
        c.due("still sold without it", x.sell(1, 3, 5, 0), 2);
        c.due("not with it", x.sell(0, 1, 5, 2000), NO);
    }

    private static void sellOnceAnHour() {
        c.promise(11, "A THING is sold once an hour at most.");
        DawnFair x = held(2);
        c.due("sold", x.sell(0, 2, 5, 0), 0);
        c.refused(x, selling(x), NO, Check.told(0, 3, 5, 0), 1, 0, 1, 3, 7);
        c.due("another thing this hour", x.sell(1, 2, 5, 0), 1);
        x.hours(1);
        c.due("an hour later", x.sell(0, 3, 5, 0), 2);
        c.due("not twice then either", x.sell(0, 4, 5, 0), NO);
    }

    private static void sellOnceAnHourAlsoIfGivenBack() {
        c.promise(11, "or it was sold this hour (also if that was GIVEN BACK)");
        DawnFair x = held(1);
        x.sell(0, 2, 5, 9);
        x.back(0);
        c.refused(x, selling(x), NO, Check.told(0, 2, 5, 0), 1, 0, 2, 3, 7);
        x.hours(1);
        c.due("an hour later", x.sell(0, 3, 5, 9), 1);
        x.hours(1);
        x.back(0);
        c.due("given back in an hour without a sale", x.sell(0, 4, 5, 0), 2);
    }

    /** Eighty sales of things 0 .. 10, the last with back 1000; thing 11 is never sold. */
    private static DawnFair soldOut() {
        DawnFair x = held(12);
        int made = 0;
        for (int round = 0; round < 8; round++) {
            for (int thing = 0; thing < 11 && made < 80; thing++) {
                c.due("sale " + made, x.sell(thing, round % 2 == 0 ? 2 : 1, made, made == 79 ? 1000 : 0), made);
                made++;
            }
            x.hours(1);
        }
        return x;
    }

    private static void sellFull() {
        c.promise(11, "A SALE (80 at most)");
        DawnFair x = soldOut();
        c.refused(x, selling(x), FULL, Check.told(11, 2, 5, 0), 1, 0, 2, 7);
        c.due("who holds it", x.holder(11), 1);
        c.due("sales", x.count(1), 80);
        c.due("all stand", x.count(2), 80);
        c.due("rose over sales 0 and 77", x.rose(0), 77);
        c.due("no sale 80", x.sale(80, 3), NONE);
        c.due("the last given back", x.back(x.sale(79, 0)), x.sale(79, 1));
        c.due("FULL, though one does not stand", x.sell(11, 2, 5, 0), FULL);
    }

    private static void sellRefusedInOrder() {
        c.promise(11, "the first of: BAD -2 a number is not as told; NO -3 as told; FULL -4.");
        DawnFair none = Check.withThings(1);
        c.due("BAD ahead of NO, a price", none.sell(0, 3, 100001, 0), BAD);
        c.due("BAD ahead of NO, a back", none.sell(0, 3, 1, 2001), BAD);
        c.due("BAD ahead of NO, a buyer", none.sell(0, 8, 1, 1), BAD);
        DawnFair x = soldOut();
        c.due("BAD ahead of FULL, a buyer", x.sell(11, 8, 1, 0), BAD);
        c.due("BAD ahead of FULL, a thing", x.sell(12, 2, 1, 0), BAD);
        c.due("NO ahead of FULL, the buyer's own", x.sell(11, 1, 1, 0), NO);
        c.due("NO ahead of FULL, a back", x.sell(11, 2, 1, 1), NO);
        x.hold(11, NONE);
        c.due("NO ahead of FULL, held by none", x.sell(11, 2, 1, 0), NO);
    }

    private static void sellRefusedIsNoSale() {
        c.promise(11, "Refused, changing nothing");
        DawnFair x = held(1);
        x.sell(0, 2, 5, 100);
        x.hours(1);
        x.sell(0, 2, 5, 0);
        x.sell(0, 3, 5, 5);
        x.sell(0, 3, 100001, 0);
        x.sell(0, 8, 5, 0);
        c.due("the latest is what it was", x.back(0), 1);
        c.due("it was not sold this hour", x.sell(0, 3, 5, 0), 1);
    }

    private static void backToTheSeller() {
        c.promise(12, "GIVEN BACK: who HOLDS it then.");
        DawnFair x = held(2);
        x.hold(1, 0);
        x.sell(0, 2, 70, 9);
        x.sell(1, 7, 70, 9);
        c.due("in the hour of the sale", x.back(0), 1);
        c.due("the seller holds it", x.holder(0), 1);
        c.due("the sale does not stand", x.sale(0, 6), 0);
        x.hours(1);
        c.due("an hour later, to the first dealer", x.back(1), 0);
        c.due("no sale is lost", x.count(1), 2);
        c.due("none stands", x.count(2), 0);
    }

    private static void backWhileTheBuyerHolds() {
        c.promise(12, "GIVEN BACK: while the buyer of the latest SALE of it HOLDS it");
        DawnFair x = held(1);
        x.sell(0, 2, 70, 100);
        x.hold(0, 3);
        c.due("another one holds it", x.back(0), NO);
        x.hold(0, 1);
        c.due("the seller holds it", x.back(0), NO);
        x.hold(0, NONE);
        c.due("none holds it", x.back(0), NO);
        c.due("the sale stands", x.sale(0, 6), 1);
        DawnFair y = held(1);
        y.sell(0, 2, 70, 100);
        y.hours(1);
        y.sell(0, 3, 70, 0);
        c.due("the one ahead of the latest is not given back", y.back(0), NO);
    }

    private static void backAboveTheHour() {
        c.promise(12, "and b of that SALE is above THE HOUR");
        DawnFair x = held(2);
        x.sell(0, 2, 70, 6);
        x.sell(1, 2, 70, 6);
        x.hours(1);
        c.due("an hour below b", x.back(0), 1);
        x.hours(1);
        c.refused(x, n -> x.back(n[0]), NO, Check.told(1), 0, 1);
        x.hours(1);
        c.due("above b", x.back(1), NO);
        c.due("it stands", x.sale(1, 6), 1);
        c.due("the buyer holds it", x.holder(1), 2);
    }

    private static void backWithoutTerms() {
        c.promise(12, "(0: not)");
        DawnFair x = held(1);
        x.sell(0, 2, 70, 0);
        c.refused(x, n -> x.back(n[0]), NO, Check.told(0), 0, 0);
        c.due("the buyer holds it", x.holder(0), 2);
    }

    private static void backInAChain() {
        c.promise(12, "the SALE does not stand; then that ahead of it is the latest that stands.");
        DawnFair x = held(2);
        x.sell(0, 2, 10, 40);
        x.sell(1, 2, 10, 40);
        x.hours(1);
        x.sell(0, 3, 20, 0);
        x.hours(1);
        x.sell(0, 4, 30, 40);
        c.due("to 3", x.back(0), 3);
        c.due("the latest is one without terms", x.back(0), NO);
        c.due("another thing by its own sale", x.back(1), 1);
        x.hours(1);
        x.sell(0, 5, 25, 40);
        x.hours(1);
        x.sell(0, 6, 35, 9);
        c.due("to 5", x.back(0), 5);
        c.due("to 3 again, over one that does not stand", x.back(0), 3);
        c.due("no further", x.back(0), NO);
        c.due("sales that stand", x.count(2), 2);
        DawnFair y = held(1);
        y.sell(0, 2, 10, 6);
        y.hours(1);
        y.sell(0, 3, 20, 40);
        y.hours(1);
        c.due("to 2", y.back(0), 2);
        c.due("that ahead of it is too old", y.back(0), NO);
        c.due("who holds it", y.holder(0), 2);
    }

    private static void backNo() {
        c.promise(12, "NO: it may not be.");
        DawnFair x = Check.withThings(2);
        c.refused(x, n -> x.back(n[0]), NO, Check.told(0), 0, 0, 1);
        x.hold(0, 1);
        c.due("held but never sold", x.back(0), NO);
        x.sell(0, 2, 70, 9);
        c.due("given back", x.back(0), 1);
        c.due("given back twice", x.back(0), NO);
        c.due("the seller holds it", x.holder(0), 1);
    }

    private static void backBad() {
        c.promise(12, "BAD; NO");
        c.due("no thing at all", new DawnFair().back(0), BAD);
        DawnFair x = held(2);
        x.sell(0, 2, 70, 9);
        c.refused(x, n -> x.back(n[0]), BAD, Check.told(0), 0, -1, 2, 11, 12, MIN, MAX);
    }

    private static void sale() {
        c.promise(13, "0 THING, 1 seller, 2 buyer, 3 price, 4 hour, 5 back, 6 whether it stands.");
        DawnFair x = Check.withThings(12);
        x.hold(11, 0);
        x.hold(4, 6);
        x.hours(3);
        x.sell(11, 1, 20, 0);
        x.sell(4, 5, 12345, 999);
        x.hours(1);
        int[] want = {4, 6, 5, 12345, 7, 999, 1};
        for (int what = 0; what < 7; what++) {
            c.due("sale(1, " + what + ")", x.sale(1, what), want[what]);
        }
        x.back(4);
        want[6] = 0;
        for (int what = 0; what < 7; what++) {
            c.due("given back, sale(1, " + what + ")", x.sale(1, what), want[what]);
        }
        c.due("the other stands", x.sale(0, 6), 1);
        x.hold(11, NONE);
        c.due("it stands after a hold", x.sale(0, 6), 1);
    }

    private static void saleNotSoMany() {
        c.promise(13, "NONE: not so many.");
        c.due("no sale at all", new DawnFair().sale(0, 0), NONE);
        DawnFair x = held(2);
        x.sell(0, 2, 5, 0);
        x.sell(1, 2, 5, 0);
        c.due("the last", x.sale(1, 0), 1);
        c.refused(x, n -> x.sale(n[0], n[1]), NONE, Check.told(0, 0), 0, 2, 79, 80, MAX);
    }

    private static void saleBad() {
        c.promise(13, "BAD.");
        DawnFair x = held(1);
        x.sell(0, 2, 5, 0);
        c.refused(x, n -> x.sale(n[0], n[1]), BAD, Check.told(0, 0), 1, -1, 7, MIN, MAX);
        c.refused(x, n -> x.sale(n[0], n[1]), BAD, Check.told(0, 0), 0, -1, MIN);
        c.refused(x, n -> x.sale(n[0], n[1]), BAD, Check.told(1, 0), 1, -1, 7, MIN, MAX);
    }

    private static void gain() {
        c.promise(14, "A GAIN: prices of SALES that stand as a seller less those as a buyer.");
        DawnFair x = held(2);
        x.hold(0, 0);
        x.sell(0, 1, 100, 0);
        x.sell(1, 0, 7, 50);
        x.hours(1);
        x.sell(0, 2, 300, 0);
        x.hours(1);
        x.sell(0, 3, 40, 50);
        int[] want = {93, 207, -260, -40, 0, 0, 0, 0};
        for (int dealer = 0; dealer < 8; dealer++) {
            c.due("gain(" + dealer + ")", x.gain(dealer), want[dealer]);
        }
        x.back(0);
        x.back(1);
        int[] after = {100, 200, -300, 0, 0, 0, 0, 0};
        for (int dealer = 0; dealer < 8; dealer++) {
            c.due("two given back, gain(" + dealer + ")", x.gain(dealer), after[dealer]);
        }
    }

    private static void gainOfMany() {
        c.promise(14, "A SALE (80 at most)");
        DawnFair x = held(12);
        for (int made = 0; made < 80; made++) {
            x.hold(made % 12, 0);
            c.due("sale", x.sell(made % 12, 7, 100000, 0), made);
            if (made % 12 == 11) {
                x.hours(1);
            }
        }
        c.due("the greatest gain", x.gain(0), 8000000);
        c.due("the least gain", x.gain(7), -8000000);
    }

    private static void gainBad() {
        c.promise(14, "BAD: -2000000000.");
        DawnFair x = held(1);
        c.refused(x, n -> x.gain(n[0]), BAD_SUM, Check.told(0), 0, -1, 8, MIN, MAX);
        c.due("the last dealer", x.gain(7), 0);
    }

    private static void rose() {
        c.promise(15, "over all its SALES that stand: the last less the first");
        DawnFair x = held(2);
        x.sell(0, 2, 100, 50);
        x.sell(1, 2, 100000, 0);
        x.hours(1);
        c.due("of one sale", x.rose(0), 0);
        x.sell(0, 3, 900, 0);
        x.sell(1, 3, 0, 0);
        c.due("it rose", x.rose(0), 800);
        c.due("it fell, by the most", x.rose(1), -100000);
        x.hours(1);
        x.sell(0, 4, 300, 50);
        c.due("by the last of three", x.rose(0), 200);
        x.back(0);
        c.due("the last given back", x.rose(0), 800);
        x.hold(0, NONE);
        c.due("after a hold", x.rose(0), 800);
        DawnFair y = held(1);
        y.sell(0, 2, 100, 50);
        y.back(0);
        y.hours(1);
        y.sell(0, 3, 900, 0);
        y.hours(1);
        y.sell(0, 4, 950, 0);
        c.due("the first given back", y.rose(0), 50);
    }

    private static void roseFewerThanTwo() {
        c.promise(15, "(0: fewer than two)");
        DawnFair x = held(1);
        c.due("no sale", x.rose(0), 0);
        x.sell(0, 2, 500, 0);
        c.due("one sale", x.rose(0), 0);
        x.hours(1);
        x.sell(0, 3, 700, 50);
        c.due("two sales", x.rose(0), 200);
        x.back(0);
        c.due("one of two stands", x.rose(0), 0);
        DawnFair y = held(1);
        y.sell(0, 2, 500, 50);
        y.back(0);
        c.due("none of one stands", y.rose(0), 0);
    }

    private static void roseBad() {
        c.promise(15, "BAD: -2000000000.");
        c.due("no thing at all", new DawnFair().rose(0), BAD_SUM);
        DawnFair x = held(2);
        c.refused(x, n -> x.rose(n[0]), BAD_SUM, Check.told(0), 0, -1, 2, 11, 12, MIN, MAX);
    }
}
