/** Promises 8, 9 and 21: order, cancel, orderTold. */
public final class OrdersTest {
    private static final int MIN = Integer.MIN_VALUE;
    private static final int MAX = Integer.MAX_VALUE;
    private static final Check CHECK = new Check();

    public static void main(String[] args) {
        orders();
        ordersOfOthers();
        ordersAreFull();
        cancels();
        cancelDuringStep();
        openUntilEnd();
        leftAndGap();
        gapSinceTheLatest();
        CHECK.end();
    }

    private static void due(String call, long got, long want) {
        CHECK.due(call, got, want);
    }

    private static DispenseCabinet withPharmacist() {
        DispenseCabinet x = new DispenseCabinet();
        x.user(0, 0, 10);
        x.user(1, 1, 11);
        x.user(2, 2, 12);
        x.item(0, false, 0);
        x.item(1, true, 0);
        x.login(1, 11);
        return x;
    }

    private static void fill(DispenseCabinet x, int bin, int units, int item, int expiry) {
        due("fill begins", x.begin(1, bin), bin);
        x.amount(units, item, expiry);
        due("fill shuts", x.shut(), 0);
    }

    private static void orders() {
        DispenseCabinet x = withPharmacist();
        x.tick(10);
        due("no such item", x.order(2, 1, 0, 100), -1);
        due("item 32", x.order(32, 1, 0, 100), -1);
        due("item -1", x.order(-1, 1, 0, 100), -1);
        due("0 units", x.order(0, 0, 0, 100), -1);
        due("1001 units", x.order(0, 1001, 0, 100), -1);
        due("MIN units", x.order(0, MIN, 0, 100), -1);
        due("gap -1", x.order(0, 1, -1, 100), -1);
        due("gap 100001", x.order(0, 1, 100001, 100), -1);
        due("end now", x.order(0, 1, 0, 10), -1);
        due("end before", x.order(0, 1, 0, MIN), -1);
        due("least", x.order(0, 1, 0, 11), 0);
        due("most", x.order(1, 1000, 100000, MAX), 1);
        due("item of 1", x.orderTold(1, 0), 1);
        due("left of 1", x.orderTold(1, 1), 1000);
        due("open 1", x.orderTold(1, 2), 1);
        due("what 3", x.orderTold(1, 3), -1);
        due("what -1", x.orderTold(1, -1), -1);
        due("order 2", x.orderTold(2, 0), -1);
        due("order -1", x.orderTold(-1, 0), -1);
        due("order MAX", x.orderTold(MAX, 0), -1);
        x.begin(1, 0);
        due("while a step is open", x.order(0, 1, 0, 100), 2);
    }

    private static void ordersOfOthers() {
        DispenseCabinet x = withPharmacist();
        x.login(0, 10);
        due("nurse", x.order(0, 1, 0, 100), -3);
        due("nurse, BAD first", x.order(0, 0, 0, 100), -1);
        x.login(2, 12);
        due("aide", x.order(0, 1, 0, 100), -3);
        x.logout();
        due("nobody", x.order(0, 1, 0, 100), -2);
        due("nobody, BAD first", x.order(9, 1, 0, 100), -1);
        due("none was made", x.orderTold(0, 0), -1);
    }

    private static void ordersAreFull() {
        DispenseCabinet x = withPharmacist();
        for (int i = 0; i < 60; i++) {
            due("order " + i, x.order(0, 1, 0, 100), i);
        }
        due("order 60", x.order(0, 1, 0, 100), -8);
        due("60 is none", x.orderTold(60, 0), -1);
        due("59 is one", x.orderTold(59, 1), 1);
        x.cancel(0);
        due("cancelled ones keep their number", x.order(0, 1, 0, 100), -8);
        x.login(0, 10);
        due("role before full", x.order(0, 1, 0, 100), -3);
    }

    private static void cancels() {
        DispenseCabinet x = withPharmacist();
        x.order(0, 7, 0, 100);
        due("no such order", x.cancel(1), -1);
        due("order -1", x.cancel(-1), -1);
        x.login(0, 10);
        due("nurse", x.cancel(0), -3);
        due("nurse, BAD first", x.cancel(1), -1);
        x.login(2, 12);
        due("aide", x.cancel(0), -3);
        x.logout();
        due("nobody", x.cancel(0), -2);
        x.login(1, 11);
        due("cancel", x.cancel(0), 7);
        due("left stays", x.orderTold(0, 1), 7);
        due("not open", x.orderTold(0, 2), 0);
        due("again", x.cancel(0), -6);
        due("begin of it", x.begin(0, 0), -6);
    }

    private static void cancelDuringStep() {
        DispenseCabinet x = withPharmacist();
        fill(x, 0, 9, 0, 500);
        x.order(0, 2, 0, 100);
        x.order(0, 3, 0, 100);
        x.begin(0, 0);
        due("step for it", x.cancel(0), -4);
        due("another's", x.cancel(1), 3);
        x.amount(2, 0, 0);
        due("step before order", x.cancel(0), -4);
        x.shut();
        due("nothing left", x.cancel(0), -6);
        x.order(0, 4, 0, 100);
        x.begin(1, 2);
        due("a step of bin 2 is none for order 2", x.cancel(2), 4);
    }

    private static void openUntilEnd() {
        DispenseCabinet x = withPharmacist();
        fill(x, 0, 9, 0, 500);
        x.order(0, 2, 0, 50);
        x.tick(49);
        due("open", x.orderTold(0, 2), 1);
        due("begin", x.begin(0, 0), 0);
        x.shut();
        x.tick(1);
        due("open no more", x.orderTold(0, 2), 0);
        due("begin no more", x.begin(0, 0), -6);
        due("cancel no more", x.cancel(0), -6);
        due("left stays", x.orderTold(0, 1), 2);
    }

    private static void leftAndGap() {
        DispenseCabinet x = withPharmacist();
        fill(x, 0, 9, 0, 500);
        x.order(0, 5, 30, 400);
        due("no gap before the first", x.begin(0, 0), 0);
        due("nothing taken", x.amount(0, 0, 0), 9);
        x.shut();
        due("which is no taking", x.begin(0, 0), 0);
        due("two", x.amount(2, 0, 0), 7);
        due("left", x.orderTold(0, 1), 3);
        x.shut();
        due("gap", x.begin(0, 0), -6);
        due("open all the same", x.orderTold(0, 2), 1);
        x.tick(29);
        due("gap yet", x.begin(0, 0), -6);
        x.tick(1);
        due("gap passed", x.begin(0, 0), 0);
        due("nothing", x.amount(0, 0, 0), 7);
        x.shut();
        due("starts no gap", x.begin(0, 0), 0);
        due("all that is left", x.amount(3, 0, 0), 4);
        due("left 0", x.orderTold(0, 1), 0);
        due("not open", x.orderTold(0, 2), 0);
        x.shut();
        x.tick(30);
        due("not open for begin", x.begin(0, 0), -6);
    }

    private static void gapSinceTheLatest() {
        DispenseCabinet x = withPharmacist();
        fill(x, 0, 9, 0, 5000);
        x.order(0, 5, 30, 4000);
        for (int taking = 1; taking <= 3; taking++) {
            x.tick(40);
            due("gap passed", x.begin(0, 0), 0);
            due("one", x.amount(1, 0, 0), 9 - taking);
            x.shut();
            x.tick(29);
            due("gap since the latest", x.begin(0, 0), -6);
            x.tick(1);
            due("passed", x.begin(0, 0), 0);
            x.shut();
        }
    }
}
