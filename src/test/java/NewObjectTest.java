/** Promise 1: "No users, items, orders, lots."; each test has a new object of its own. */
public final class NewObjectTest {
    private static final int BAD = DispenseCabinet.BAD;
    private static final Check CHECK = new Check();

    public static void main(String[] args) {
        noUsers();
        noItems();
        noOrders();
        noLots();
        nothingElse();
        twoObjectsShareNothing();
        CHECK.end();
    }

    private static void due(String call, long got, long want) {
        CHECK.due(call, got, want);
    }

    private static void noUsers() {
        DispenseCabinet x = new DispenseCabinet();
        for (int user = 0; user <= 15; user++) {
            due("login " + user, x.login(user, 0), BAD);
            due("witness " + user, x.witness(user, 0), BAD);
        }
        for (int user = 0; user <= 15; user++) {
            due("user " + user, x.user(user, 0, 0), 0);
        }
    }

    private static void noItems() {
        DispenseCabinet x = new DispenseCabinet();
        for (int item = 0; item <= 31; item++) {
            due("stock " + item, x.stock(item, 0), BAD);
            due("order " + item, x.order(item, 1, 0, 9), BAD);
            due("giveBack " + item, x.giveBack(item, 1), BAD);
        }
        for (int item = 0; item <= 31; item++) {
            due("item " + item, x.item(item, false, 0), 0);
        }
    }

    private static void noOrders() {
        DispenseCabinet x = new DispenseCabinet();
        for (int order = 0; order < 60; order++) {
            due("orderTold " + order, x.orderTold(order, 0), BAD);
            due("cancel " + order, x.cancel(order), BAD);
            due("TAKE " + order, x.begin(0, order), BAD);
        }
    }

    private static void noLots() {
        DispenseCabinet x = new DispenseCabinet();
        for (int bin = 0; bin <= 63; bin++) {
            due("item of bin " + bin, x.bin(bin, 0), -1);
            for (int what = 1; what <= 5; what++) {
                due("bin " + bin + " what " + what, x.bin(bin, what), 0);
            }
            due("lot of bin " + bin, x.lot(bin, 0, true), BAD);
        }
    }

    private static void nothingElse() {
        DispenseCabinet x = new DispenseCabinet();
        due("time", x.told(0), 0);
        for (int what = 1; what <= 5; what++) {
            due("told " + what, x.told(what), -1);
        }
        due("entries", x.told(6), 0);
        due("mismatch", x.mismatch(0), BAD);
        due("wanted", x.wanted(0), BAD);
        due("alarms", x.alarms(), 0);
        due("entry", x.entry(0, 0), BAD);
        due("audit", x.audit(), 0);
        due("repair", x.repair(), 2);
        due("logout", x.logout(), DispenseCabinet.NOBODY);
        due("reconcile", x.reconcile(), DispenseCabinet.NOBODY);
        due("shut", x.shut(), DispenseCabinet.STEP);
    }

    private static void twoObjectsShareNothing() {
        DispenseCabinet x = new DispenseCabinet();
        DispenseCabinet y = new DispenseCabinet();
        x.user(0, 1, 5);
        x.item(0, false, 5);
        x.tick(7);
        x.lose(0);
        due("other's user", y.login(0, 5), BAD);
        due("other's item", y.stock(0, 0), BAD);
        due("other's time", y.told(0), 0);
        due("other's alarms", y.alarms(), 0);
    }
}
