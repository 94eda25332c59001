import java.util.Random;

/**
 * Runs of calls picked with fixed seeds: no call throws, what is read agrees with itself, and a second object that
 * gets the same calls without the refused ones ends in the same state.
 */
public final class RandomRunsTest {
    private static final int RUNS = 2000;
    private static final int CALLS = 170;
    private static final int KINDS = 16;
    private static final int TICK = 5;
    private static final int COUNT = 9;
    private static final int USED_BINS = 4;
    private static final int[] ODD = {Integer.MIN_VALUE, -1, 0, 1, 6, 15, 16, 31, 32, 63, 64, 60, 300, 1000, 1001, 10001, Integer.MAX_VALUE};
    private static final Check CHECK = new Check();

    public static void main(String[] args) {
        for (int seed = 0; seed < RUNS; seed++) {
            run(seed, new Random(seed));
        }
        for (int seed = 0; seed < RUNS; seed++) {
            wildRun(new Random(seed));
        }
        CHECK.end();
    }

    private static void run(int seed, Random random) {
        DispenseCabinet all = prepared();
        DispenseCabinet acceptedOnly = prepared();
        int now = 0;
        for (int i = 0; i < CALLS; i++) {
            int kind = random.nextInt(KINDS);
            int[] a = likely(kind, random, now);
            int entries = kind == COUNT ? all.told(6) : 0;
            int answer = call(all, kind, a);
            boolean isDoubt = kind == COUNT && all.told(6) != entries;
            now = kind == TICK && answer >= 0 ? answer : now;
            // Wrong codes and SHORT change something though they are refused, as the document tells.
            if (answer >= 0 || isDoubt || answer == DispenseCabinet.WRONG || answer == DispenseCabinet.SHORT) {
                CHECK.due("seed " + seed + " call " + i + " of kind " + kind, call(acceptedOnly, kind, a), answer);
            }
        }
        compare(seed, all, acceptedOnly);
        readAgrees(seed, all);
    }

    private static void wildRun(Random random) {
        DispenseCabinet x = random.nextBoolean() ? prepared() : new DispenseCabinet();
        for (int i = 0; i < 400; i++) {
            int kind = random.nextInt(KINDS + 10);
            int[] a = new int[4];
            for (int j = 0; j < a.length; j++) {
                a[j] = random.nextInt(3) > 0 ? random.nextInt(5) : ODD[random.nextInt(ODD.length)];
            }
            call(x, kind, a);
        }
    }

    private static DispenseCabinet prepared() {
        DispenseCabinet x = new DispenseCabinet();
        for (int id = 0; id < 4; id++) {
            x.user(id, id == 3 ? 1 : id, 100 + id);
        }
        x.item(0, false, 5);
        x.item(1, true, 10);
        x.login(1, 101);
        x.begin(1, 0);
        x.amount(20, 0, 300);
        x.shut();
        x.begin(1, 1);
        x.amount(20, 1, 200);
        x.shut();
        x.order(0, 30, 5, 900);
        x.order(1, 30, 0, 900);
        return x;
    }

    /** Arguments that are mostly accepted, so that the runs go deep. */
    private static int[] likely(int kind, Random random, int now) {
        int id = random.nextInt(8) > 0 ? 1 + 2 * random.nextInt(2) : random.nextInt(5);
        int code = 100 + id + (random.nextInt(8) == 0 ? 1 : 0);
        int item = random.nextInt(12) == 0 ? random.nextInt(4) : random.nextInt(2);
        switch (kind) {
            case 0: return new int[] {random.nextInt(18) - 1, random.nextInt(4), random.nextInt(3), 0};
            case 1: return new int[] {random.nextInt(5), random.nextInt(2), random.nextInt(30), 0};
            case 2:
            case 4: return new int[] {id, code, 0, 0};
            case 3: return new int[] {0, 0, 0, 0};
            case 5: return new int[] {random.nextInt(30), 0, 0, 0};
            case 6: return new int[] {item, random.nextInt(20), random.nextInt(10), now + random.nextInt(300)};
            case 7: return new int[] {random.nextInt(6), 0, 0, 0};
            case 8: return new int[] {random.nextInt(4), random.nextInt(USED_BINS), 0, 0};
            case 9: return new int[] {random.nextInt(30) - 1, 0, 0, 0};
            case 10: return new int[] {random.nextInt(20), item, now + random.nextInt(100), 0};
            case 12: return new int[] {item, random.nextInt(9), 0, 0};
            default: return new int[] {random.nextInt(20), 0, 0, 0};
        }
    }

    private static int call(DispenseCabinet x, int kind, int[] a) {
        switch (kind) {
            case 0: return x.user(a[0], a[1], a[2]);
            case 1: return x.item(a[0], a[1] == 1, a[2]);
            case 2: return x.login(a[0], a[1]);
            case 3: return x.logout();
            case 4: return x.witness(a[0], a[1]);
            case 5: return x.tick(a[0]);
            case 6: return x.order(a[0], a[1], a[2], a[3]);
            case 7: return x.cancel(a[0]);
            case 8: return x.begin(a[0], a[1]);
            case 9: return x.count(a[0]);
            case 10: return x.amount(a[0], a[1], a[2]);
            case 11: return x.shut();
            case 12: return x.giveBack(a[0], a[1]);
            case 13: return x.reconcile();
            case 14: return x.lose(a[0]);
            case 15: return x.repair();
            default: return ask(x, kind - KINDS, a);
        }
    }

    private static int ask(DispenseCabinet x, int kind, int[] a) {
        switch (kind) {
            case 0: return x.mismatch(a[0]);
            case 1: return x.bin(a[0], a[1]);
            case 2: return x.lot(a[0], a[1], a[2] == 1);
            case 3: return x.stock(a[0], a[1]);
            case 4: return x.wanted(a[0]);
            case 5: return x.orderTold(a[0], a[1]);
            case 6: return x.alarms();
            case 7: return x.told(a[0]);
            case 8: return x.entry(a[0], a[1]);
            default: return x.audit();
        }
    }

    private static void compare(int seed, DispenseCabinet x, DispenseCabinet y) {
        String run = "seed " + seed + " ";
        for (int what = 0; what < 7; what++) {
            CHECK.due(run + "told " + what, y.told(what), x.told(what));
        }
        CHECK.due(run + "alarms", y.alarms(), x.alarms());
        CHECK.due(run + "mismatch", y.mismatch(0), x.mismatch(0));
        for (int bin = 0; bin < USED_BINS; bin++) {
            for (int what = 0; what < 6; what++) {
                CHECK.due(run + "bin " + bin + " " + what, y.bin(bin, what), x.bin(bin, what));
            }
        }
        for (int order = 0; order < 6; order++) {
            CHECK.due(run + "left of " + order, y.orderTold(order, 1), x.orderTold(order, 1));
            CHECK.due(run + "open " + order, y.orderTold(order, 2), x.orderTold(order, 2));
        }
    }

    private static void readAgrees(int seed, DispenseCabinet x) {
        String run = "seed " + seed + " ";
        int now = x.told(0);
        for (int bin = 0; bin < USED_BINS; bin++) {
            int book = 0;
            int given = 0;
            int before = Integer.MIN_VALUE;
            for (int i = 0; i < x.bin(bin, 4); i++) {
                int expiry = x.lot(bin, i, true);
                int units = x.lot(bin, i, false);
                CHECK.holds(run + "no empty lot in " + bin, units > 0);
                CHECK.holds(run + "lots in order in " + bin, expiry >= before);
                before = expiry;
                book += units;
                given += expiry > now ? units : 0;
            }
            CHECK.due(run + "book " + bin, x.bin(bin, 1), book);
            CHECK.due(run + "given " + bin, x.bin(bin, 2), given);
        }
        int audit = x.audit();
        CHECK.holds(run + "audit " + audit, audit == 0 || audit == DispenseCabinet.FULL);
    }
}
