/** Promises 10 to 13: begin, count, amount, shut. */
public final class StepsTest {
    private static final int MIN = Integer.MIN_VALUE;
    private static final int MAX = Integer.MAX_VALUE;
    private static final Check CHECK = new Check();

    public static void main(String[] args) {
        beginWrong();
        beginRoles();
        beginWitness();
        beginOrderOfCodes();
        beginPicksLeastExpiry();
        beginShort();
        beginFull();
        counts();
        countsChangeLots();
        countsMore();
        countsAgain();
        fills();
        fillsInOrder();
        takes();
        takesAfterOrderEnds();
        wastes();
        shortMustBeCounted();
        shuts();
        ledgerOf300();
        CHECK.end();
    }

    private static void due(String call, long got, long want) {
        CHECK.due(call, got, want);
    }

    /** Item 0 is free, item 1 is controlled; user 0 a nurse, 1 and 3 pharmacists, 2 an aide; 1 is in. */
    private static DispenseCabinet cabinet() {
        DispenseCabinet x = new DispenseCabinet();
        x.user(0, 0, 10);
        x.user(1, 1, 11);
        x.user(2, 2, 12);
        x.user(3, 1, 13);
        x.item(0, false, 0);
        x.item(1, true, 0);
        x.login(1, 11);
        return x;
    }

    private static void fill(DispenseCabinet x, int bin, int units, int item, int expiry) {
        due("fill begins", x.begin(1, bin), bin);
        CHECK.holds("fill", x.amount(units, item, expiry) >= units);
        due("fill shuts", x.shut(), 0);
    }

    private static void giveBackUntil(DispenseCabinet x, int entries) {
        int missing = entries - x.told(6);
        for (int i = 0; i < missing; i++) {
            x.giveBack(0, 1);
        }
    }

    private static void lots(DispenseCabinet x, int bin, int... expiryAndUnits) {
        due("lots of " + bin, x.bin(bin, 4), expiryAndUnits.length / 2);
        for (int i = 0; i < expiryAndUnits.length / 2; i++) {
            due("expiry of lot " + i, x.lot(bin, i, true), expiryAndUnits[2 * i]);
            due("units of lot " + i, x.lot(bin, i, false), expiryAndUnits[2 * i + 1]);
        }
    }

    private static void beginWrong() {
        DispenseCabinet x = cabinet();
        due("kind -1", x.begin(-1, 0), -1);
        due("kind 4", x.begin(4, 0), -1);
        due("kind MAX", x.begin(MAX, 0), -1);
        due("no order", x.begin(0, 0), -1);
        due("order -1", x.begin(0, -1), -1);
        for (int kind = 1; kind <= 3; kind++) {
            due("bin 64", x.begin(kind, 64), -1);
            due("bin -1", x.begin(kind, -1), -1);
            due("bin MIN", x.begin(kind, MIN), -1);
        }
        due("COUNT of no item", x.begin(2, 0), -1);
        due("WASTE of no item", x.begin(3, 0), -1);
        due("FILL of no item", x.begin(1, 0), 0);
        x.shut();
        due("begun for nothing", x.bin(0, 0), -1);
        due("COUNT of no item yet", x.begin(2, 0), -1);
        due("nothing open", x.told(3), -1);
    }

    private static void beginRoles() {
        DispenseCabinet x = cabinet();
        fill(x, 5, 9, 0, 500);
        x.order(0, 5, 0, 900);
        x.logout();
        due("nobody", x.begin(1, 5), -2);
        due("nobody, BAD first", x.begin(2, 6), -1);
        x.login(2, 12);
        x.witness(1, 11);
        due("aide TAKE", x.begin(0, 0), -3);
        due("aide FILL", x.begin(1, 5), -3);
        due("aide COUNT", x.begin(2, 5), -3);
        due("aide WASTE", x.begin(3, 5), -3);
        x.login(0, 10);
        x.witness(1, 11);
        due("nurse FILL", x.begin(1, 5), -3);
        due("nurse TAKE", x.begin(0, 0), 5);
        due("ROLE before STEP", x.begin(1, 5), -3);
        x.shut();
        due("nurse WASTE", x.begin(3, 5), 5);
        x.shut();
        due("nurse COUNT", x.begin(2, 5), 5);
    }

    private static void beginWitness() {
        DispenseCabinet x = cabinet();
        fill(x, 0, 9, 0, 500);
        fill(x, 1, 9, 1, 500);
        x.order(0, 5, 0, 900);
        x.order(1, 5, 0, 900);
        due("TAKE of a free item", x.begin(0, 0), 0);
        x.shut();
        due("TAKE of a controlled item", x.begin(0, 1), -5);
        due("WASTE of a free item", x.begin(3, 0), -5);
        due("WASTE of a controlled item", x.begin(3, 1), -5);
        due("COUNT of a controlled item", x.begin(2, 1), 1);
        x.count(9);
        x.shut();
        due("FILL of a controlled item", x.begin(1, 1), 1);
        x.shut();
        x.witness(2, 12);
        due("TAKE with a witness", x.begin(0, 1), 1);
        x.shut();
        due("WASTE with a witness", x.begin(3, 0), 0);
        x.tick(130);
        due("the witness is gone", x.told(2), -1);
        due("but the step goes on", x.amount(1, 0, 0), 8);
    }

    private static void beginOrderOfCodes() {
        DispenseCabinet x = cabinet();
        fill(x, 1, 9, 1, 500);
        x.order(1, 5, 0, 900);
        x.cancel(0);
        due("WITNESS before ORDER", x.begin(0, 0), -5);
        x.begin(2, 1);
        due("STEP before WITNESS", x.begin(3, 1), -4);
        due("BAD before STEP", x.begin(3, 2), -1);
        x.count(0);
        x.shut();
        x.witness(2, 12);
        due("ORDER before SHORT", x.begin(0, 0), -6);
    }

    private static void beginPicksLeastExpiry() {
        DispenseCabinet x = cabinet();
        fill(x, 10, 5, 0, 300);
        fill(x, 20, 5, 0, 200);
        fill(x, 30, 5, 0, 200);
        fill(x, 10, 5, 0, 50);
        fill(x, 3, 5, 1, 10);
        x.order(0, 9, 0, 9000);
        due("the lot of least expiry", x.begin(0, 0), 10);
        due("its lid", x.bin(10, 5), 1);
        due("another's lid", x.bin(20, 5), 0);
        x.shut();
        due("lid shut", x.bin(10, 5), 0);
        x.tick(50);
        due("expired is not given: of several the least bin", x.begin(0, 0), 20);
        x.shut();
        x.tick(60);
        x.order(0, 9, 0, 9000);
        x.tick(89);
        due("one second before", x.begin(0, 0), 20);
        x.shut();
        x.tick(1);
        due("expired, too", x.begin(0, 0), 10);
    }

    private static void beginShort() {
        DispenseCabinet x = cabinet();
        x.order(0, 9, 0, 9000);
        due("no bins", x.begin(0, 0), -7);
        fill(x, 0, 5, 0, 60);
        x.tick(60);
        due("all expired", x.begin(0, 0), -7);
        due("nothing open", x.told(4), -1);
        due("other steps of expired lots", x.begin(2, 0), 0);
    }

    private static void beginFull() {
        DispenseCabinet x = cabinet();
        for (int i = 0; i < 6; i++) {
            fill(x, 7, 1, 0, 50);
        }
        due("FILL of 6 lots", x.begin(1, 7), -8);
        x.tick(50);
        due("expired ones, too", x.begin(1, 7), -8);
        due("COUNT of 6 lots", x.begin(2, 7), 7);
        x.count(5);
        x.shut();
        due("FILL of 5 lots", x.begin(1, 7), 7);
        x.amount(1, 0, 99);
        x.shut();
        x.order(0, 1, 0, 9999);
        x.order(1, 1, 0, 9999);
        x.witness(2, 12);
        giveBackUntil(x, 289);
        due("289 entries", x.begin(2, 7), 7);
        x.count(6);
        x.shut();
        due("290 entries", x.told(6), 290);
        due("FULL TAKE", x.begin(0, 0), -8);
        due("FULL FILL", x.begin(1, 8), -8);
        due("FULL COUNT", x.begin(2, 7), -8);
        due("FULL WASTE", x.begin(3, 7), -8);
        due("SHORT before FULL", x.begin(0, 1), -7);
    }

    private static void counts() {
        DispenseCabinet x = cabinet();
        due("no step", x.count(1), -4);
        due("no step, BAD first", x.count(-1), -1);
        x.begin(1, 0);
        due("of FILL", x.count(0), -4);
        x.amount(9, 0, 500);
        due("of FILL told", x.count(0), -4);
        x.shut();
        x.begin(2, 0);
        due("must be counted", x.told(5), 1);
        due("-1", x.count(-1), -1);
        due("10001", x.count(10001), -1);
        due("10000", x.count(10000), 9991);
        due("needs no count", x.told(5), 0);
        due("counted", x.count(10000), -4);
        due("doubt", x.bin(0, 3), 9991);
        due("book", x.bin(0, 1), 10000);
        due("no amount of COUNT", x.amount(1, 0, 0), -4);
        x.shut();
        due("doubt stays", x.bin(0, 3), 9991);
        x.begin(2, 0);
        due("the same", x.count(10000), 0);
        due("doubt until the next count", x.bin(0, 3), 0);
        x.shut();
        x.logout();
        due("nobody", x.count(1), -2);
        due("nobody, BAD first", x.count(10001), -1);
    }

    private static void countsChangeLots() {
        DispenseCabinet x = cabinet();
        fill(x, 0, 3, 0, 300);
        fill(x, 0, 4, 0, 100);
        fill(x, 0, 5, 0, 200);
        x.begin(2, 0);
        due("two less", x.count(10), -2);
        lots(x, 0, 100, 2, 200, 5, 300, 3);
        x.shut();
        x.begin(2, 0);
        due("two lots go", x.count(3), -7);
        lots(x, 0, 300, 3);
        x.shut();
        x.begin(2, 0);
        due("all go", x.count(0), -3);
        lots(x, 0);
        due("of that item for ever", x.bin(0, 0), 0);
        x.shut();
        x.begin(2, 0);
        due("nothing of nothing", x.count(0), 0);
        lots(x, 0);
        due("an entry all the same", x.told(6), 7);
    }

    private static void countsMore() {
        DispenseCabinet x = cabinet();
        fill(x, 0, 3, 0, 300);
        fill(x, 0, 4, 0, 100);
        x.begin(2, 0);
        due("more comes to the last lot", x.count(17), 10);
        lots(x, 0, 100, 4, 300, 13);
        x.shut();
        x.begin(2, 0);
        x.count(0);
        x.shut();
        x.tick(77);
        x.begin(2, 0);
        due("more of nothing", x.count(6), 6);
        lots(x, 0, 77, 6);
        due("is expired", x.bin(0, 2), 0);
        due("expiry alarm", x.alarms(), 16);
        x.shut();
        fill(x, 0, 1, 0, 78);
        lots(x, 0, 77, 6, 78, 1);
    }

    private static void countsAgain() {
        DispenseCabinet x = cabinet();
        fill(x, 0, 9, 0, 300);
        x.order(0, 20, 0, 900);
        x.witness(2, 12);
        x.begin(0, 0);
        due("TAKE need not be counted", x.told(5), 0);
        due("but may be", x.count(8), -1);
        due("once", x.count(8), -4);
        due("amount", x.amount(2, 0, 0), 6);
        due("not behind its amount", x.count(6), -4);
        x.shut();
        x.begin(3, 0);
        due("WASTE may be counted", x.count(6), 0);
        due("once, too", x.count(6), -4);
        x.shut();
        x.begin(0, 0);
        x.amount(1, 0, 0);
        due("not counted before, and not behind", x.count(5), -4);
    }

    private static void fills() {
        DispenseCabinet x = cabinet();
        x.tick(10);
        due("no step", x.amount(1, 0, 0), -4);
        due("no step, BAD first", x.amount(-1, 0, 0), -1);
        due("any item and expiry without FILL", x.amount(0, MIN, MIN), -4);
        x.begin(1, 4);
        due("FILL need not be counted", x.told(5), 0);
        due("-1 units", x.amount(-1, 0, 100), -1);
        due("0 units", x.amount(0, 0, 100), -1);
        due("1001 units", x.amount(1001, 0, 100), -1);
        due("item 2", x.amount(1, 2, 100), -1);
        due("item -1", x.amount(1, -1, 100), -1);
        due("item MAX", x.amount(1, MAX, 100), -1);
        due("expiry now", x.amount(1, 0, 10), -1);
        due("expiry MIN", x.amount(1, 0, MIN), -1);
        due("nothing yet", x.bin(4, 0), -1);
        due("least", x.amount(1, 0, 11), 1);
        due("told", x.amount(1, 0, 11), -4);
        due("BAD before STEP", x.amount(0, 0, 11), -1);
        x.shut();
        x.begin(1, 4);
        due("another item", x.amount(1, 1, 100), -1);
        due("most", x.amount(1000, 0, MAX), 1001);
        x.shut();
        lots(x, 4, 11, 1, MAX, 1000);
        x.logout();
        due("nobody", x.amount(1, 0, 100), -2);
    }

    private static void fillsInOrder() {
        DispenseCabinet x = cabinet();
        fill(x, 0, 1, 0, 50);
        fill(x, 0, 2, 0, 40);
        fill(x, 0, 3, 0, 50);
        fill(x, 0, 4, 0, 60);
        fill(x, 0, 5, 0, 40);
        fill(x, 0, 6, 0, 55);
        lots(x, 0, 40, 2, 40, 5, 50, 1, 50, 3, 55, 6, 60, 4);
        due("no lot 6", x.lot(0, 6, true), -1);
    }

    private static void takes() {
        DispenseCabinet x = cabinet();
        fill(x, 0, 4, 0, 10);
        fill(x, 0, 5, 0, 100);
        fill(x, 0, 6, 0, 200);
        fill(x, 1, 50, 0, 300);
        x.order(0, 20, 0, 900);
        x.tick(10);
        x.begin(0, 0);
        due("-1", x.amount(-1, 0, 0), -1);
        due("1001", x.amount(1001, 0, 0), -1);
        due("more than left", x.amount(21, 0, 0), -6);
        due("which needs no count", x.told(5), 0);
        due("7 of 11", x.amount(7, MIN, MAX), 8);
        lots(x, 0, 10, 4, 200, 4);
        due("left", x.orderTold(0, 1), 13);
        due("told", x.amount(0, 0, 0), -4);
        x.shut();
        due("kind", x.entry(4, 0), 2);
        due("units", x.entry(4, 4), 7);
        due("order", x.entry(4, 5), 0);
        x.begin(0, 0);
        due("0 is an entry", x.amount(0, 0, 0), 8);
        due("entries", x.told(6), 6);
        x.shut();
        x.begin(0, 0);
        due("all that can be given", x.amount(4, 0, 0), 4);
        lots(x, 0, 10, 4);
        x.shut();
        due("then the other bin", x.begin(0, 0), 1);
    }

    /** Only the units are looked at when the amount is told; the order was open when the step began. */
    private static void takesAfterOrderEnds() {
        DispenseCabinet x = cabinet();
        fill(x, 0, 9, 0, 500);
        x.order(0, 5, 0, 50);
        x.begin(0, 0);
        x.tick(100);
        due("not open", x.orderTold(0, 2), 0);
        due("more than left", x.amount(6, 0, 0), -6);
        due("amount", x.amount(5, 0, 0), 4);
    }

    private static void wastes() {
        DispenseCabinet x = cabinet();
        fill(x, 0, 4, 0, 10);
        fill(x, 0, 5, 0, 100);
        x.witness(2, 12);
        x.tick(10);
        x.begin(3, 0);
        due("need not be counted", x.told(5), 0);
        due("more than there are", x.amount(10, 0, 0), -7);
        due("must be counted", x.amount(6, 0, 0), -4);
        x.count(9);
        due("of all lots in order", x.amount(6, MAX, MIN), 3);
        lots(x, 0, 100, 3);
        x.shut();
        due("kind", x.entry(3, 0), 4);
        due("no order", x.entry(3, 5), -1);
        x.begin(3, 0);
        due("0 is an entry", x.amount(0, 0, 0), 3);
        due("entries", x.told(6), 5);
        x.shut();
        fill(x, 1, 5, 1, 900);
        x.begin(3, 1);
        due("controlled must be counted", x.told(5), 1);
        due("first", x.amount(1, 0, 0), -4);
        x.count(5);
        due("then", x.amount(5, 0, 0), 0);
        lots(x, 1);
    }

    private static void shortMustBeCounted() {
        DispenseCabinet x = cabinet();
        fill(x, 0, 4, 1, 50);
        fill(x, 0, 5, 1, 500);
        x.order(1, 20, 0, 900);
        x.witness(2, 12);
        x.tick(40);
        x.begin(0, 0);
        due("must be counted", x.told(5), 1);
        due("not counted", x.amount(21, 0, 0), -4);
        due("count", x.count(9), 0);
        due("ORDER before SHORT", x.amount(21, 0, 0), -6);
        x.tick(10);
        due("4 are expired by now", x.amount(6, 0, 0), -7);
        due("must be counted again", x.told(5), 1);
        due("amount before", x.amount(5, 0, 0), -4);
        due("count again", x.count(10), 1);
        due("once again", x.count(10), -4);
        due("short again", x.amount(7, 0, 0), -7);
        due("count again", x.count(10), 0);
        due("what can be given", x.amount(6, 0, 0), 4);
        due("told", x.told(5), 0);
        x.shut();
        due("nothing to tell", x.told(5), -1);
        fill(x, 1, 3, 0, 500);
        x.order(0, 20, 0, 900);
        x.begin(0, 1);
        due("short of a free item", x.amount(4, 0, 0), -7);
        due("must be counted, too", x.told(5), 1);
        due("amount before", x.amount(3, 0, 0), -4);
        due("shut without", x.shut(), 0);
        x.begin(0, 1);
        due("a new step need not be", x.told(5), 0);
    }

    private static void shuts() {
        DispenseCabinet x = cabinet();
        due("none", x.shut(), -4);
        x.logout();
        due("none, nobody", x.shut(), -4);
        x.login(1, 11);
        x.begin(1, 0);
        x.tick(7);
        due("without amount", x.shut(), 7);
        due("comes to nothing", x.told(6), 0);
        due("no kind", x.told(3), -1);
        due("no bin", x.told(4), -1);
        fill(x, 0, 5, 1, 500);
        x.begin(2, 0);
        due("COUNT not counted", x.shut(), -4);
        due("open yet", x.told(3), 2);
        x.count(5);
        due("counted", x.shut(), 0);
        x.witness(2, 12);
        x.begin(3, 0);
        due("WASTE not counted", x.shut(), 0);
    }

    private static void ledgerOf300() {
        DispenseCabinet x = cabinet();
        fill(x, 0, 5, 0, 5000);
        x.order(0, 9, 0, 9000);
        giveBackUntil(x, 289);
        x.begin(0, 0);
        due("count", x.count(5), 0);
        for (int i = 0; i < 10; i++) {
            due("short", x.amount(6, 0, 0), -7);
            due("count", x.count(5), 0);
        }
        due("300 entries", x.told(6), 300);
        due("ORDER before FULL", x.amount(10, 0, 0), -6);
        due("amount is full", x.amount(5, 0, 0), -8);
        due("STEP before FULL", x.count(5), -4);
        due("SHORT before FULL", x.amount(6, 0, 0), -7);
        due("count is full", x.count(5), -8);
        due("left", x.orderTold(0, 1), 9);
        due("book", x.bin(0, 1), 5);
        due("shut", x.shut(), 0);
        due("entry 299", x.entry(299, 0), 3);
        due("entry 300", x.entry(300, 0), -1);
        due("audit", x.audit(), 0);
    }
}
