/** The boundary cases of promises 8, 9 and 21; above each test stands the sentence that it is for. */
public final class OrdersBoundsTest extends Bounds {
    public static void main(String[] args) {
        orderNumbers();
        orderOfNoItem();
        orderUnits();
        orderGap();
        orderEnd();
        orderOfNobody();
        orderRoles();
        orderFull();
        orderOrderOfCodes();
        cancelAnswersLeft();
        cancelOfNoOrder();
        cancelOfNobody();
        cancelRoles();
        cancelWithOpenStep();
        cancelOfOrderNotOpen();
        cancelOrderOfCodes();
        toldOfNoOrder();
        toldOfNoWhat();
        toldOfOrder();
        CHECK.end();
    }

    private static int usualOrder(DispenseCabinet x) {
        return x.order(FREE, 1, 0, LATER);
    }

    /** Promise 8: "A new order: its number." */
    private static void orderNumbers() {
        DispenseCabinet x = with(PHARMACIST);
        due("first", usualOrder(x), 0);
        due("second", usualOrder(x), 1);
        due("refused", x.order(FREE, 0, 0, LATER), BAD);
        due("third", usualOrder(x), 2);
        x.cancel(2);
        due("fourth", usualOrder(x), 3);
    }

    /** Promise 8: "BAD: no such item" */
    private static void orderOfNoItem() {
        for (int item : new int[] {MIN, -1, NO_ITEM, 31, 32, MAX}) {
            refused("item " + item, BAD, () -> stocked(PHARMACIST), x -> x.order(item, 1, 0, LATER));
        }
    }

    /** Promise 8: "units not 1 .. 1000" */
    private static void orderUnits() {
        for (int units : new int[] {1, 1000}) {
            DispenseCabinet x = with(PHARMACIST);
            due(units + " units", x.order(FREE, units, 0, LATER), 0);
            due("left", x.orderTold(0, 1), units);
        }
        for (int units : new int[] {MIN, -1, 0, 1001, MAX}) {
            refused(units + " units", BAD, () -> stocked(PHARMACIST), x -> x.order(FREE, units, 0, LATER));
        }
    }

    /** Promise 8: "a gap not 0 .. 100000" */
    private static void orderGap() {
        due("gap 0", with(PHARMACIST).order(FREE, 1, 0, LATER), 0);
        due("gap 100000", with(PHARMACIST).order(FREE, 1, 100000, LATER), 0);
        for (int gap : new int[] {MIN, -1, 100001, MAX}) {
            refused("gap " + gap, BAD, () -> stocked(PHARMACIST), x -> x.order(FREE, 1, gap, LATER));
        }
    }

    /** Promise 8: "or an end that is not behind now" */
    private static void orderEnd() {
        for (int end : new int[] {1, MAX}) {
            DispenseCabinet x = with(PHARMACIST);
            due("end " + end, x.order(FREE, 1, 0, end), 0);
            due("open", x.orderTold(0, 2), 1);
        }
        due("end 0 at 0", with(PHARMACIST).order(FREE, 1, 0, 0), BAD);
        for (int end : new int[] {MIN, -1, 0, 19, 20}) {
            refused("end " + end + " at 20", BAD, () -> stocked(PHARMACIST), x -> x.order(FREE, 1, 0, end));
        }
        DispenseCabinet x = with(PHARMACIST);
        x.tick(20);
        due("end 21 at 20", x.order(FREE, 1, 0, 21), 0);
    }

    /** Promise 8: "NOBODY" */
    private static void orderOfNobody() {
        refused("nobody", NOBODY, () -> stocked(NOBODY_IN), x -> usualOrder(x));
    }

    /** Promise 8: "ROLE: not 1" */
    private static void orderRoles() {
        refused("nurse", ROLE, () -> stocked(NURSE), x -> usualOrder(x));
        refused("aide", ROLE, () -> stocked(AIDE), x -> usualOrder(x));
        due("pharmacist", usualOrder(with(PHARMACIST)), 0);
        due("with a step", usualOrder(begun(PHARMACIST, COUNT, FREE_BIN)), NO_ORDER);
    }

    private static DispenseCabinet with60Orders(int user) {
        DispenseCabinet x = stocked(PHARMACIST);
        for (int i = NO_ORDER; i < 60; i++) {
            due("order " + i, usualOrder(x), i);
        }
        enter(x, user);
        return x;
    }

    /** Promise 8: "FULL." */
    private static void orderFull() {
        refused("the 61st", FULL, () -> with60Orders(PHARMACIST), x -> usualOrder(x));
        DispenseCabinet x = with60Orders(PHARMACIST);
        pass(x, LATER);
        enter(x, PHARMACIST);
        due("all have ended", x.orderTold(59, 2), 0);
        due("and keep their numbers", x.order(FREE, 1, 0, MAX), FULL);
    }

    /** Promise 8, where several would come: BAD, NOBODY, ROLE, FULL. */
    private static void orderOrderOfCodes() {
        refused("BAD before NOBODY", BAD, () -> stocked(NOBODY_IN), x -> x.order(FREE, 0, 0, LATER));
        refused("BAD before ROLE", BAD, () -> stocked(NURSE), x -> x.order(FREE, 1, -1, LATER));
        refused("BAD before FULL", BAD, () -> with60Orders(PHARMACIST), x -> x.order(FREE, 1, 0, 20));
        refused("NOBODY before FULL", NOBODY, () -> with60Orders(NOBODY_IN), x -> usualOrder(x));
        refused("ROLE before FULL", ROLE, () -> with60Orders(NURSE), x -> usualOrder(x));
    }

    /** Promise 9: "An order is cancelled: what was left (which stays LEFT)." */
    private static void cancelAnswersLeft() {
        DispenseCabinet x = stocked(PHARMACIST);
        x.begin(TAKE, FREE_ORDER);
        x.amount(4, 0, 0);
        x.shut();
        due("one of five", x.cancel(FREE_ORDER), 1);
        due("stays", x.orderTold(FREE_ORDER, 1), 1);
        due("not open", x.orderTold(FREE_ORDER, 2), 0);
        due("all of five", x.cancel(CONTROLLED_ORDER), 5);
        due("stays", x.orderTold(CONTROLLED_ORDER, 1), 5);
        due("most", x.order(FREE, 1000, 0, LATER), NO_ORDER);
        due("all of 1000", x.cancel(NO_ORDER), 1000);
    }

    /** Promise 9: "BAD: no such order." */
    private static void cancelOfNoOrder() {
        due("none at all", with(PHARMACIST).cancel(0), BAD);
        for (int order : new int[] {MIN, -1, NO_ORDER, 59, 60, MAX}) {
            refused("order " + order, BAD, () -> stocked(PHARMACIST), x -> x.cancel(order));
        }
        due("the first", stocked(PHARMACIST).cancel(0), 5);
        due("the last", with60Orders(PHARMACIST).cancel(59), 1);
        due("behind it", with60Orders(PHARMACIST).cancel(60), BAD);
    }

    /** Promise 9: "NOBODY" */
    private static void cancelOfNobody() {
        refused("nobody", NOBODY, () -> stocked(NOBODY_IN), x -> x.cancel(FREE_ORDER));
    }

    /** Promise 9: "ROLE: not 1" */
    private static void cancelRoles() {
        refused("nurse", ROLE, () -> stocked(NURSE), x -> x.cancel(FREE_ORDER));
        refused("aide", ROLE, () -> stocked(AIDE), x -> x.cancel(FREE_ORDER));
        due("another pharmacist", stocked(SECOND).cancel(FREE_ORDER), 5);
    }

    /** Promise 9: "STEP: one is open for it" */
    private static void cancelWithOpenStep() {
        refused("for it", STEP, () -> begun(PHARMACIST, TAKE, FREE_ORDER), x -> x.cancel(FREE_ORDER));
        due("for another", begun(PHARMACIST, TAKE, FREE_ORDER).cancel(CONTROLLED_ORDER), 5);
        for (int kind = FILL; kind <= WASTE; kind++) {
            DispenseCabinet x = begun(PHARMACIST, kind, FREE_BIN);
            due("for none, kind " + kind, x.cancel(FREE_ORDER), 5);
        }
        DispenseCabinet x = with(PHARMACIST);
        usualOrder(x);
        x.begin(FILL, 0);
        due("of bin 0, and not for order 0", x.cancel(0), 1);
        DispenseCabinet y = begun(PHARMACIST, TAKE, FREE_ORDER);
        y.shut();
        due("shut", y.cancel(FREE_ORDER), 5);
    }

    /** Promise 9: "ORDER: it is not open": cancelled, ended, nothing left. */
    private static void cancelOfOrderNotOpen() {
        refused("cancelled", ORDER, () -> stocked(PHARMACIST), x -> x.cancel(CANCELLED_ORDER));
        refused("nothing left", ORDER, OrdersBoundsTest::allTaken, x -> x.cancel(FREE_ORDER));
        DispenseCabinet x = with(PHARMACIST);
        x.order(FREE, 1, 0, 20);
        x.order(FREE, 1, 0, 20);
        x.tick(19);
        due("before its end", x.cancel(0), 1);
        x.tick(1);
        due("at its end", x.cancel(1), ORDER);
    }

    private static DispenseCabinet allTaken() {
        DispenseCabinet x = begun(PHARMACIST, TAKE, FREE_ORDER);
        x.amount(5, 0, 0);
        x.shut();
        return x;
    }

    /** Promise 9, where several would come: BAD, NOBODY, ROLE, STEP, ORDER. */
    private static void cancelOrderOfCodes() {
        refused("BAD before NOBODY", BAD, () -> stocked(NOBODY_IN), x -> x.cancel(NO_ORDER));
        refused("BAD before ROLE", BAD, () -> stocked(AIDE), x -> x.cancel(NO_ORDER));
        refused("NOBODY before ORDER", NOBODY, () -> stocked(NOBODY_IN), x -> x.cancel(CANCELLED_ORDER));
        refused("ROLE before STEP", ROLE, () -> begun(NURSE, TAKE, FREE_ORDER), x -> x.cancel(FREE_ORDER));
        refused("ROLE before ORDER", ROLE, () -> stocked(NURSE), x -> x.cancel(CANCELLED_ORDER));
        DispenseCabinet x = begun(PHARMACIST, TAKE, FREE_ORDER);
        x.amount(5, 0, 0);
        due("not open", x.orderTold(FREE_ORDER, 2), 0);
        due("STEP before ORDER", x.cancel(FREE_ORDER), STEP);
        DispenseCabinet y = begun(PHARMACIST, TAKE, FREE_ORDER);
        pass(y, LATER);
        due("not open", y.orderTold(FREE_ORDER, 2), 0);
        due("STEP before ORDER", y.cancel(FREE_ORDER), STEP);
    }

    /** Promise 21: "BAD: no such order" */
    private static void toldOfNoOrder() {
        for (int what = 0; what <= 2; what++) {
            due("none at all", peopled().orderTold(0, what), BAD);
            for (int order : new int[] {MIN, -1, NO_ORDER, 59, 60, MAX}) {
                due("order " + order, stocked(PHARMACIST).orderTold(order, what), BAD);
            }
        }
        due("the last", with60Orders(PHARMACIST).orderTold(59, 1), 1);
        due("behind it", with60Orders(PHARMACIST).orderTold(60, 1), BAD);
    }

    /** Promise 21: "or what" */
    private static void toldOfNoWhat() {
        for (int what : new int[] {MIN, -1, 3, MAX}) {
            due("what " + what, stocked(PHARMACIST).orderTold(FREE_ORDER, what), BAD);
            due("both", stocked(PHARMACIST).orderTold(NO_ORDER, what), BAD);
        }
    }

    /** Promise 21: "Of an order: its item (what = 0), left (1), whether it is open, 1 or 0 (2)." */
    private static void toldOfOrder() {
        DispenseCabinet x = stocked(NOBODY_IN);
        int[] items = {FREE, CONTROLLED, CONTROLLED};
        for (int order = 0; order < items.length; order++) {
            due("item", x.orderTold(order, 0), items[order]);
            due("left", x.orderTold(order, 1), 5);
            due("open", x.orderTold(order, 2), order == CANCELLED_ORDER ? 0 : 1);
        }
        DispenseCabinet y = with(PHARMACIST);
        y.item(31, false, 0);
        y.order(31, 1000, 0, 1);
        due("the last item", y.orderTold(0, 0), 31);
        due("most units", y.orderTold(0, 1), 1000);
        due("before its end", y.orderTold(0, 2), 1);
        y.tick(1);
        due("at its end", y.orderTold(0, 2), 0);
    }
}
