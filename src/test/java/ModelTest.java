import java.util.Random;

/** Runs of 512 calls, by fixed seeds, on DawnFair and on SlowFair: all answers must be alike. */
public final class ModelTest {
    private static final int RUNS = 400, CALLS = 512, KINDS = 29;
    private static final int[] EDGES = {Integer.MIN_VALUE, Integer.MAX_VALUE, -3, -2, -1, 0, 1, 2, 5, 6, 7, 8, 9, 10,
        11, 12, 20, 21, 31, 32, 33, 40, 64, 80, 255, 256, 1023, 1024, 1599, 1600, 1950, 1951, 2000, 2001, 4095, 4096,
        10000, 10001, 100000, 100001};

    private final Random random;
    private final DawnFair x = new DawnFair();
    private final SlowFair y = new SlowFair();
    // How often, of a hundred, a number is drawn from the edges.
    private final int wild;
    private final int entryLimit;

    private ModelTest(long seed) {
        random = new Random(seed);
        wild = (int) (seed % 4) * 4;
        entryLimit = seed % 3 == 0 ? 10 : 6;
    }

    public static void main(String[] args) {
        Check c = new Check("ModelTest");
        for (int seed = 0; seed < RUNS && c.wrong() < 20; seed++) {
            ModelTest run = new ModelTest(seed);
            int favoured = seed % (KINDS + 1);
            for (int i = 0; i < CALLS; i++) {
                int kind = run.random.nextInt(3) == 0 ? favoured : run.random.nextInt(KINDS);
                run.call(c, kind % KINDS, "seed " + seed + " call " + i + " kind " + kind % KINDS);
            }
            c.due("seed " + seed + " digest", run.x.digest(), run.y.digest());
        }
        c.end();
    }

    private int pick(int least, int most) {
        if (random.nextInt(100) < wild) {
            return EDGES[random.nextInt(EDGES.length)];
        }
        return least + random.nextInt(most - least + 1);
    }

    private int aThing() {
        return pick(0, Math.max(0, Math.min(x.count(0) - 1, 4)));
    }

    private int aDealer() {
        return pick(0, 7);
    }

    private int fewBits(int bits) {
        return pick(0, (1 << bits) - 1) & pick(0, (1 << bits) - 1);
    }

    private int aBack() {
        return random.nextInt(3) == 0 ? 0 : pick(x.count(5), x.count(5) + 12);
    }

    private void call(Check c, int kind, String run) {
        if (kind < 6) {
            works(c, kind, run);
        } else if (kind < 14) {
            trade(c, kind, run);
        } else if (kind < 19) {
            lots(c, kind, run);
        } else {
            lists(c, kind, run);
        }
    }

    private void works(Check c, int kind, String run) {
        int t = aThing(), p = pick(0, 4), what = pick(0, 1);
        switch (kind) {
            case 0: {
                int w = pick(0, 9), from = pick(1600, 1800), to = pick(1700, 1950);
                c.due(run, x.work(w, from, to), y.work(w, from, to));
                break;
            }
            case 1: {
                int parts = pick(1, 5);
                c.due(run, x.thing(parts), y.thing(parts));
                break;
            }
            case 2: {
                int works = fewBits(10);
                c.due(run, x.part(t, p, works), y.part(t, p, works));
                break;
            }
            case 3:
                c.due(run, x.span(t, p, what), y.span(t, p, what));
                break;
            case 4:
                c.due(run, x.apart(t), y.apart(t));
                break;
            default:
                c.due(run, x.date(t, what), y.date(t, what));
                break;
        }
    }

    private void trade(Check c, int kind, String run) {
        int t = aThing(), d = aDealer();
        switch (kind) {
            case 6: {
                int who = random.nextInt(3) == 0 ? x.holder(t) : pick(-1, 7);
                c.due(run, x.hold(t, who), y.hold(t, who));
                break;
            }
            case 7:
                c.due(run, x.holder(t), y.holder(t));
                break;
            case 8: {
                int n = random.nextInt(4) == 0 ? pick(1, 20) : pick(1, 2);
                c.due(run, x.hours(n), y.hours(n));
                break;
            }
            case 9: {
                int price = pick(0, 100000), back = aBack();
                c.due(run, x.sell(t, d, price, back), y.sell(t, d, price, back));
                break;
            }
            case 10:
                c.due(run, x.back(t), y.back(t));
                break;
            case 11: {
                int i = pick(0, 20), what = pick(0, 6);
                c.due(run, x.sale(i, what), y.sale(i, what));
                break;
            }
            case 12:
                c.due(run, x.gain(d), y.gain(d));
                break;
            default:
                c.due(run, x.rose(t), y.rose(t));
                break;
        }
    }

    private void lots(Check c, int kind, String run) {
        int a = pick(0, 7), b = pick(0, 7);
        switch (kind) {
            case 14: {
                int there = pick(0, 255) | pick(0, 255);
                int bid = random.nextInt(10) == 0 ? pick(0, 255) : pick(0, 255) & there;
                int won = bid == 0 || random.nextInt(10) == 0 ? pick(-1, 7) : Integer.numberOfTrailingZeros(bid);
                c.due(run, x.lot(there, bid, won), y.lot(there, bid, won));
                break;
            }
            case 15: {
                int what = pick(0, 3);
                c.due(run, x.both(a, b, what), y.both(a, b, what));
                break;
            }
            case 16: {
                int what = pick(0, 1);
                c.due(run, x.chance(a, b, what), y.chance(a, b, what));
                break;
            }
            case 17:
                c.due(run, x.shyest(), y.shyest());
                break;
            default: {
                int ring = pick(0, 255), p = pick(0, 50000), q = pick(20000, 100000), what = pick(0, 1);
                c.due(run, x.inside(ring, p, q, what), y.inside(ring, p, q, what));
                break;
            }
        }
    }

    private void lists(Check c, int kind, String run) {
        int a = pick(0, 7), b = pick(0, 7), t = aThing();
        int e = pick(0, Math.max(0, x.count(4) - 1));
        switch (kind) {
            case 19: {
                int marks = x.count(4) >= entryLimit && random.nextInt(4) > 0 ? -1 : pick(0, 4095);
                c.due(run, x.entry(marks), y.entry(marks));
                break;
            }
            case 20: {
                int mark = pick(0, 11), how = random.nextInt(2) == 0 ? 1 : pick(0, 2);
                c.due(run, x.mark(t, mark, how), y.mark(t, mark, how));
                break;
            }
            case 21:
                c.due(run, x.score(e, t), y.score(e, t));
                break;
            case 22:
                c.due(run, x.joined(), y.joined());
                break;
            case 23:
                c.due(run, x.joinedTo(e), y.joinedTo(e));
                break;
            case 24: {
                int v = pick(0, 10000);
                c.due(run, x.owe(a, b, v), y.owe(a, b, v));
                break;
            }
            case 25:
                c.due(run, x.net(a), y.net(a));
                break;
            case 26: {
                int money = pick(0, 20000);
                c.due(run, x.fall(a, money), y.fall(a, money));
                break;
            }
            case 27: {
                int what = pick(0, 6);
                c.due(run, x.count(what), y.count(what));
                break;
            }
            default:
                c.due(run, x.digest(), y.digest());
                break;
        }
    }
}
