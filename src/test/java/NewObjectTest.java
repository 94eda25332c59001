/** Promise 1: a new object has no users, items, orders, lots. */
public final class NewObjectTest {
    public static void main(String[] args) {
        Check check = new Check();
        DispenseCabinet x = new DispenseCabinet();
        check.due("time", x.told(0), 0);
        for (int what = 1; what <= 5; what++) {
            check.due("told " + what, x.told(what), -1);
        }
        check.due("entries", x.told(6), 0);
        for (int user = 0; user < 16; user++) {
            check.due("login " + user, x.login(user, 0), DispenseCabinet.BAD);
        }
        for (int item = 0; item < 32; item++) {
            check.due("stock " + item, x.stock(item, 0), DispenseCabinet.BAD);
        }
        for (int order = 0; order < 60; order++) {
            check.due("orderTold " + order, x.orderTold(order, 0), DispenseCabinet.BAD);
        }
        for (int bin = 0; bin < 64; bin++) {
            check.due("bin item " + bin, x.bin(bin, 0), -1);
            check.due("bin book " + bin, x.bin(bin, 1), 0);
            check.due("bin given " + bin, x.bin(bin, 2), 0);
            check.due("bin doubt " + bin, x.bin(bin, 3), 0);
            check.due("bin lots " + bin, x.bin(bin, 4), 0);
            check.due("bin lid " + bin, x.bin(bin, 5), 0);
            check.due("lot " + bin, x.lot(bin, 0, true), DispenseCabinet.BAD);
        }
        check.due("mismatch", x.mismatch(0), DispenseCabinet.BAD);
        check.due("wanted", x.wanted(0), DispenseCabinet.BAD);
        check.due("alarms", x.alarms(), 0);
        check.due("entry", x.entry(0, 0), DispenseCabinet.BAD);
        check.due("audit", x.audit(), 0);
        check.due("repair", x.repair(), 2);
        twoObjectsShareNothing(check);
        check.end();
    }

    private static void twoObjectsShareNothing(Check check) {
        DispenseCabinet x = new DispenseCabinet();
        DispenseCabinet y = new DispenseCabinet();
        x.user(0, 1, 5);
        x.item(0, false, 5);
        x.tick(7);
        x.lose(0);
        check.due("other's user", y.login(0, 5), DispenseCabinet.BAD);
        check.due("other's item", y.stock(0, 0), DispenseCabinet.BAD);
        check.due("other's time", y.told(0), 0);
        check.due("other's alarms", y.alarms(), 0);
    }
}
