/** Promises 14 to 20, 22 and 23: giveBack, reconcile, mismatch, bin, lot, stock, wanted, alarms, told. */
public final class StockTest {
    private static final int MIN = Integer.MIN_VALUE;
    private static final int MAX = Integer.MAX_VALUE;
    private static final Check CHECK = new Check();

    public static void main(String[] args) {
        givesBack();
        givesBackRefused();
        reconciles();
        reconcilesRefused();
        mismatchesOfDoubt();
        bins();
        lots();
        stocks();
        wanted();
        alarms();
        firstAndLastNumbers();
        told();
        CHECK.end();
    }

    private static void due(String call, long got, long want) {
        CHECK.due(call, got, want);
    }

    /** Item 0 is free, item 1 is controlled; user 0 a nurse, 1 a pharmacist, 2 an aide; 1 is in. */
    private static DispenseCabinet cabinet() {
        DispenseCabinet x = new DispenseCabinet();
        x.user(0, 0, 10);
        x.user(1, 1, 11);
        x.user(2, 2, 12);
        x.item(0, false, 0);
        x.item(1, true, 0);
        x.login(1, 11);
        return x;
    }

    private static void fill(DispenseCabinet x, int bin, int units, int item, int expiry) {
        due("fill begins", x.begin(1, bin), bin);
        CHECK.holds("fill", x.amount(units, item, expiry) >= units);
        due("fill shuts", x.shut(), 0);
    }

    private static void countBin(DispenseCabinet x, int bin, int units, int doubt) {
        due("count begins", x.begin(2, bin), bin);
        due("count", x.count(units), doubt);
        due("count shuts", x.shut(), 0);
    }

    private static void givesBack() {
        DispenseCabinet x = cabinet();
        x.item(31, false, 5);
        due("one", x.giveBack(0, 1), 1);
        due("most", x.giveBack(0, 1000), 1001);
        due("of 0", x.stock(0, 2), 1001);
        due("of 31 none", x.stock(31, 2), 0);
        due("31", x.giveBack(31, 2), 2);
        due("is no stock", x.stock(31, 0), 0);
        due("is below par", x.stock(31, 1), 5);
        due("kind", x.entry(2, 0), 5);
        due("bin", x.entry(2, 3), -32);
        due("bin of item 0", x.entry(0, 3), -1);
        due("units", x.entry(2, 4), 2);
        due("order", x.entry(2, 5), -1);
        due("audit", x.audit(), 0);
        x.witness(0, 10);
        due("controlled with a witness", x.giveBack(1, 3), 3);
        x.login(0, 10);
        due("nurse", x.giveBack(0, 1), 1002);
    }

    private static void givesBackRefused() {
        DispenseCabinet x = cabinet();
        due("item 2", x.giveBack(2, 1), -1);
        due("item -1", x.giveBack(-1, 1), -1);
        due("item 32", x.giveBack(32, 1), -1);
        due("0 units", x.giveBack(0, 0), -1);
        due("1001 units", x.giveBack(0, 1001), -1);
        due("MIN units", x.giveBack(0, MIN), -1);
        due("controlled", x.giveBack(1, 1), -5);
        x.begin(1, 0);
        due("step", x.giveBack(0, 1), -4);
        due("STEP before WITNESS", x.giveBack(1, 1), -4);
        x.shut();
        x.login(2, 12);
        due("aide", x.giveBack(0, 1), -3);
        due("aide, BAD first", x.giveBack(0, 0), -1);
        x.logout();
        due("nobody", x.giveBack(0, 1), -2);
        due("nobody, BAD first", x.giveBack(5, 1), -1);
        due("none came", x.stock(0, 2), 0);
        due("no entries", x.told(6), 0);
        x.login(1, 11);
        for (int i = 1; i <= 290; i++) {
            due("back " + i, x.giveBack(0, 1), i);
        }
        due("290 entries", x.giveBack(0, 1), -8);
        due("WITNESS before FULL", x.giveBack(1, 1), -5);
        due("reconcile: WITNESS before FULL", x.reconcile(), -5);
        x.witness(2, 12);
        due("reconcile: FULL", x.reconcile(), -8);
    }

    private static void reconciles() {
        DispenseCabinet x = cabinet();
        fill(x, 60, 5, 1, 500);
        fill(x, 3, 5, 1, 500);
        fill(x, 4, 5, 0, 500);
        x.witness(2, 12);
        due("before the first", x.mismatch(0), -1);
        countBin(x, 60, 5, 0);
        due("controlled and not counted", x.reconcile(), 1);
        due("mismatch", x.mismatch(0), 3);
        due("no more", x.mismatch(1), -1);
        due("all count as not counted", x.reconcile(), 2);
        due("by bins", x.mismatch(0), 3);
        due("by bins", x.mismatch(1), 60);
        due("mismatch 2", x.mismatch(2), -1);
        due("mismatch -1", x.mismatch(-1), -1);
        due("mismatch MAX", x.mismatch(MAX), -1);
        due("kind", x.entry(5, 0), 6);
        due("bin", x.entry(5, 3), -1);
        due("units", x.entry(5, 4), 2);
        due("order", x.entry(5, 5), -1);
        x.order(1, 9, 0, 900);
        due("TAKE", x.begin(0, 0), 3);
        x.count(5);
        x.shut();
        due("a count in another step counts", x.reconcile(), 1);
        due("mismatch", x.mismatch(0), 60);
        x.login(0, 10);
        x.witness(1, 11);
        due("nurse", x.reconcile(), 2);
    }

    private static void reconcilesRefused() {
        DispenseCabinet x = cabinet();
        fill(x, 3, 5, 1, 500);
        due("no witness", x.reconcile(), -5);
        x.witness(2, 12);
        due("one", x.reconcile(), 1);
        x.begin(2, 3);
        due("step", x.reconcile(), -4);
        x.count(5);
        x.shut();
        x.login(2, 12);
        due("aide", x.reconcile(), -3);
        x.logout();
        due("nobody", x.reconcile(), -2);
        due("the latest stays", x.mismatch(0), 3);
        due("entries", x.told(6), 3);
        x.login(1, 11);
        x.witness(2, 12);
        due("the count stays", x.reconcile(), 0);
        due("none", x.mismatch(0), -1);
    }

    private static void mismatchesOfDoubt() {
        DispenseCabinet x = cabinet();
        fill(x, 8, 5, 0, 500);
        fill(x, 2, 5, 0, 500);
        x.witness(2, 12);
        due("free and without doubt", x.reconcile(), 0);
        countBin(x, 8, 4, -1);
        countBin(x, 2, 7, 2);
        due("doubt below 0 and above", x.reconcile(), 2);
        due("by bins", x.mismatch(0), 2);
        due("by bins", x.mismatch(1), 8);
        due("doubt stays", x.reconcile(), 2);
        countBin(x, 2, 7, 0);
        due("until the next count", x.reconcile(), 1);
        due("mismatch", x.mismatch(0), 8);
    }

    private static void bins() {
        DispenseCabinet x = cabinet();
        fill(x, 63, 5, 1, 50);
        fill(x, 63, 6, 1, 60);
        due("bin 64", x.bin(64, 0), -1);
        due("bin -1", x.bin(-1, 0), -1);
        due("bin MIN", x.bin(MIN, 1), -1);
        due("what 6", x.bin(63, 6), -1);
        due("what -1", x.bin(63, -1), -1);
        due("item", x.bin(63, 0), 1);
        due("book", x.bin(63, 1), 11);
        due("given", x.bin(63, 2), 11);
        x.tick(49);
        due("given before expiry", x.bin(63, 2), 11);
        x.tick(1);
        due("given from expiry on", x.bin(63, 2), 6);
        due("book all the same", x.bin(63, 1), 11);
        due("lots all the same", x.bin(63, 4), 2);
        x.begin(2, 63);
        due("lid", x.bin(63, 5), 1);
        due("other lid", x.bin(0, 5), 0);
        x.count(9);
        due("doubt", x.bin(63, 3), -2);
        due("from the expired lot first", x.bin(63, 2), 6);
        due("other doubt", x.bin(0, 3), 0);
        x.shut();
        due("lid shut", x.bin(63, 5), 0);
    }

    private static void lots() {
        DispenseCabinet x = cabinet();
        fill(x, 0, 5, 0, 50);
        due("expiry", x.lot(0, 0, true), 50);
        due("units", x.lot(0, 0, false), 5);
        due("lot 1", x.lot(0, 1, true), -1);
        due("lot -1", x.lot(0, -1, false), -1);
        due("lot MAX", x.lot(0, MAX, false), -1);
        due("bin 64", x.lot(64, 0, true), -1);
        due("bin -1", x.lot(-1, 0, true), -1);
        due("bin of none", x.lot(1, 0, true), -1);
        x.tick(60);
        due("expired stays", x.lot(0, 0, false), 5);
    }

    private static void stocks() {
        DispenseCabinet x = cabinet();
        x.item(5, false, 20);
        due("none", x.stock(5, 0), 0);
        due("below par", x.stock(5, 1), 20);
        fill(x, 1, 5, 5, 50);
        fill(x, 2, 9, 5, 60);
        fill(x, 3, 9, 0, 60);
        due("of two bins", x.stock(5, 0), 14);
        due("below par", x.stock(5, 1), 6);
        fill(x, 2, 6, 5, 60);
        due("at par", x.stock(5, 1), 0);
        fill(x, 2, 1, 5, 60);
        due("above par", x.stock(5, 1), 0);
        x.tick(50);
        due("without the expired", x.stock(5, 0), 16);
        due("below par by expiry", x.stock(5, 1), 4);
        due("given back", x.stock(5, 2), 0);
        due("what 3", x.stock(5, 3), -1);
        due("what -1", x.stock(5, -1), -1);
        due("item 6", x.stock(6, 0), -1);
        due("item -1", x.stock(-1, 0), -1);
        due("item 32", x.stock(32, 0), -1);
    }

    private static void wanted() {
        DispenseCabinet x = cabinet();
        due("par 0 is never wanted", x.wanted(0), -1);
        x.item(31, false, 1);
        x.item(7, true, 2);
        due("by numbers", x.wanted(0), 7);
        due("by numbers", x.wanted(1), 31);
        due("no more", x.wanted(2), -1);
        due("-1", x.wanted(-1), -1);
        due("MIN", x.wanted(MIN), -1);
        due("MAX", x.wanted(MAX), -1);
        fill(x, 0, 1, 7, 50);
        due("below yet", x.wanted(0), 7);
        fill(x, 0, 1, 7, 60);
        due("at par", x.wanted(0), 31);
        due("no more", x.wanted(1), -1);
        x.tick(50);
        due("by expiry", x.wanted(0), 7);
    }

    private static void alarms() {
        DispenseCabinet x = cabinet();
        due("none", x.alarms(), 0);
        x.begin(1, 0);
        x.amount(3, 0, 60);
        x.tick(39);
        due("lid 39", x.alarms(), 0);
        x.tick(1);
        due("lid 40", x.alarms(), 1);
        x.shut();
        due("lid shut", x.alarms(), 0);
        x.tick(19);
        due("not expired", x.alarms(), 0);
        x.tick(1);
        due("expired", x.alarms(), 16);
        x.item(9, false, 1);
        due("par", x.alarms(), 20);
        x.lose(1);
        due("copy", x.alarms(), 28);
        x.lose(0);
        due("both copies", x.alarms(), 28);
        for (int i = 0; i < 3; i++) {
            x.login(2, 0);
        }
        due("locked", x.alarms(), 30);
        x.begin(1, 0);
        x.tick(40);
        due("all", x.alarms(), 31);
        DispenseCabinet y = cabinet();
        y.lose(0);
        due("copy alone", y.alarms(), 8);
        y.repair();
        due("repaired", y.alarms(), 0);
    }

    private static void told() {
        DispenseCabinet x = cabinet();
        for (int what = 2; what <= 5; what++) {
            due("none " + what, x.told(what), -1);
        }
        due("what 7", x.told(7), -1);
        due("what -1", x.told(-1), -1);
        due("what MIN", x.told(MIN), -1);
        x.tick(9);
        x.witness(0, 10);
        fill(x, 12, 5, 1, 500);
        x.order(1, 5, 0, 500);
        x.begin(0, 0);
        due("time", x.told(0), 9);
        due("in", x.told(1), 1);
        due("witness", x.told(2), 0);
        due("TAKE", x.told(3), 0);
        due("bin", x.told(4), 12);
        due("must be counted", x.told(5), 1);
        due("entries", x.told(6), 1);
        x.count(5);
        due("counted", x.told(5), 0);
        due("entries", x.told(6), 2);
        x.shut();
        x.begin(1, 13);
        due("FILL", x.told(3), 1);
        due("need not be counted", x.told(5), 0);
        x.shut();
        x.begin(3, 12);
        due("WASTE", x.told(3), 3);
        due("WASTE must be counted", x.told(5), 1);
        x.shut();
        x.begin(2, 12);
        due("COUNT", x.told(3), 2);
        due("COUNT must be counted", x.told(5), 1);
    }

    private static void firstAndLastNumbers() {
        DispenseCabinet x = new DispenseCabinet();
        x.user(0, 1, 10);
        x.user(15, 1, 25);
        x.item(0, true, 5);
        x.item(31, true, 5);
        due("wanted 0", x.wanted(0), 0);
        due("wanted 31", x.wanted(1), 31);
        x.login(15, 25);
        x.witness(0, 10);
        fill(x, 0, 5, 0, 50);
        fill(x, 63, 5, 31, 60);
        due("nothing is wanted", x.alarms(), 0);
        due("bins 0 and 63", x.reconcile(), 2);
        due("bin 0", x.mismatch(0), 0);
        due("bin 63", x.mismatch(1), 63);
        x.tick(50);
        due("a lot of bin 0 is expired, item 0 is wanted", x.alarms(), 20);
        countBin(x, 0, 0, -5);
        fill(x, 0, 5, 0, 900);
        x.tick(10);
        due("a lot of bin 63 is expired, item 31 is wanted", x.alarms(), 20);
        fill(x, 63, 5, 31, 900);
        countBin(x, 63, 5, -5);
        due("none", x.alarms(), 0);
        for (int i = 0; i < 3; i++) {
            x.login(0, 0);
        }
        due("user 0 is locked", x.alarms(), 2);
        x.tick(300);
        for (int i = 0; i < 3; i++) {
            x.login(15, 0);
        }
        due("user 15 is locked", x.alarms(), 2);
    }
}
