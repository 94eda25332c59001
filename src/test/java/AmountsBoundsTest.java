import java.util.Arrays;

/** The boundary cases of promises 11 and 12, count and amount; above each test stands the sentence that it is for. */
public final class AmountsBoundsTest extends Bounds {
    public static void main(String[] args) {
        countUnits();
        countAnswersDoubt();
        doubtStaysUntilTheNextCount();
        countedTooMuchGoesInOrder();
        countedMoreComesToTheLastLot();
        countedMoreOfNothingIsExpired();
        countOfNobody();
        countWithoutStep();
        countOfFill();
        countBehindAmount();
        countTwice();
        countAgainWhereItMust();
        countWithFullLedger();
        countOrderOfCodes();
        amountUnits();
        amountOf0IsAnEntry();
        takenByLotsInOrder();
        wastedOfAllLotsInOrder();
        comesInAsLot();
        otherKindsTakeAnyNumbers();
        fillOfNoItem();
        fillOfAnotherItem();
        fillExpiry();
        fillOf0();
        amountOfNobody();
        amountWithoutStep();
        amountOfCount();
        amountBeforeCount();
        amountTwice();
        amountOverOrder();
        takeShort();
        wasteShort();
        shortMustBeCountedAgain();
        amountWithFullLedger();
        amountOrderOfCodes();
        amountOrderOfCodesWhenFull();
        CHECK.end();
    }

    /** Three lots of 3, 4 and 5 units in bin 0, that expire at 100, 200 and 300; order 0 is of 1000 units. */
    private static DispenseCabinet threeLots(int kind) {
        DispenseCabinet x = with(PHARMACIST);
        fill(x, 0, 5, FREE, 300);
        fill(x, 0, 3, FREE, 100);
        fill(x, 0, 4, FREE, 200);
        x.order(FREE, 1000, 0, LATER);
        witness(x, AIDE);
        due("begin", x.begin(kind, 0), 0);
        return x;
    }

    /** Promise 11: "What was counted, 0 .. 10000", "BAD" */
    private static void countUnits() {
        for (int kind : new int[] {TAKE, COUNT, WASTE}) {
            int step = kind;
            due("0", begun(NURSE, kind, target(kind, FREE)).count(0), -9);
            due("1", begun(NURSE, kind, target(kind, FREE)).count(1), -8);
            due("10000", begun(NURSE, kind, target(kind, FREE)).count(10000), 9991);
            for (int units : new int[] {MIN, -1, 10001, MAX}) {
                refused("count " + units, BAD, () -> begun(NURSE, step, target(step, FREE)), x -> x.count(units));
            }
        }
    }

    /** Promise 11: "the count less the book" */
    private static void countAnswersDoubt() {
        for (int units = 7; units <= 11; units++) {
            DispenseCabinet x = begun(NURSE, COUNT, CONTROLLED_BIN);
            due("less the book", x.count(units), units - 9);
            due("doubt", x.bin(CONTROLLED_BIN, 3), units - 9);
            due("the book becomes that", x.bin(CONTROLLED_BIN, 1), units);
            entryIs(x, 2, 3, 0, NURSE, CONTROLLED_BIN, units - 9, -1);
            due("audit", x.audit(), 0);
        }
    }

    /** Promise 11: "(its DOUBT, until the next count)" */
    private static void doubtStaysUntilTheNextCount() {
        DispenseCabinet x = begun(PHARMACIST, COUNT, FREE_BIN);
        due("before", x.bin(FREE_BIN, 3), 0);
        x.count(4);
        due("then", x.bin(FREE_BIN, 3), -5);
        x.shut();
        fill(x, FREE_BIN, 5, FREE, LATER);
        due("after FILL", x.bin(FREE_BIN, 3), -5);
        x.begin(TAKE, FREE_ORDER);
        x.amount(1, 0, 0);
        x.shut();
        due("after TAKE", x.bin(FREE_BIN, 3), -5);
        due("reconcile", x.reconcile(), 2);
        due("after reconcile", x.bin(FREE_BIN, 3), -5);
        due("of another bin", x.bin(CONTROLLED_BIN, 3), 0);
        countTo(x, FREE_BIN, 8);
        due("after the next count", x.bin(FREE_BIN, 3), 0);
    }

    /** Promise 11: "what is too much goes, from the lots in order": to each end of a lot, expired or not. */
    private static void countedTooMuchGoesInOrder() {
        int[][] due = {
            {12, 100, 3, 200, 4, 300, 5}, {11, 100, 2, 200, 4, 300, 5}, {10, 100, 1, 200, 4, 300, 5},
            {9, 200, 4, 300, 5}, {8, 200, 3, 300, 5}, {6, 200, 1, 300, 5}, {5, 300, 5}, {4, 300, 4}, {1, 300, 1}, {0}
        };
        for (int[] row : due) {
            for (int time : new int[] {0, 100, 300}) {
                DispenseCabinet x = threeLots(COUNT);
                pass(x, time);
                due("count", x.count(row[0]), row[0] - 12);
                lotsAre(x, 0, Arrays.copyOfRange(row, 1, row.length));
            }
        }
    }

    /** Promise 11: "what is more comes to the last lot", expired or not. */
    private static void countedMoreComesToTheLastLot() {
        for (int time : new int[] {0, 299, 300}) {
            DispenseCabinet x = threeLots(COUNT);
            pass(x, time);
            due("one more", x.count(13), 1);
            lotsAre(x, 0, 100, 3, 200, 4, 300, 6);
        }
        DispenseCabinet y = threeLots(COUNT);
        due("most", y.count(10000), 9988);
        lotsAre(y, 0, 100, 3, 200, 4, 300, 9993);
    }

    /** Promise 11: "(without any a lot that is expired now: its expiry is the time now)" */
    private static void countedMoreOfNothingIsExpired() {
        for (int time : new int[] {0, 1, 77}) {
            DispenseCabinet x = threeLots(COUNT);
            x.count(0);
            x.shut();
            x.begin(COUNT, 0);
            pass(x, time);
            due("one of nothing", x.count(1), 1);
            lotsAre(x, 0, time, 1);
            due("given", x.bin(0, 2), 0);
            due("alarm", x.alarms() & 16, 16);
            x.shut();
            x.begin(COUNT, 0);
            due("none of one", x.count(0), -1);
            lotsAre(x, 0);
            x.shut();
            x.begin(COUNT, 0);
            due("none of nothing", x.count(0), 0);
            lotsAre(x, 0);
        }
    }

    /** Promise 11: "NOBODY" */
    private static void countOfNobody() {
        refused("nobody", NOBODY, () -> stocked(NOBODY_IN), x -> x.count(9));
    }

    /** Promise 11: "STEP: none is open" */
    private static void countWithoutStep() {
        for (int user = NURSE; user <= SECOND; user++) {
            int in = user;
            refused("user " + user, STEP, () -> stocked(in), x -> x.count(9));
        }
    }

    /** Promise 11: "STEP: .. of FILL" */
    private static void countOfFill() {
        refused("FILL", STEP, () -> begun(PHARMACIST, FILL, CONTROLLED_BIN), x -> x.count(9));
        refused("FILL of no item", STEP, () -> begun(PHARMACIST, FILL, NEW_BIN), x -> x.count(0));
        DispenseCabinet x = begun(PHARMACIST, FILL, FREE_BIN);
        x.amount(1, FREE, LATER);
        due("its amount is told", x.count(10), STEP);
    }

    /** Promise 11: "STEP: .. its amount is told" */
    private static void countBehindAmount() {
        for (int kind : new int[] {TAKE, WASTE}) {
            int step = kind;
            refused("free", STEP, () -> amountTold(step, FREE, 1), x -> x.count(8));
            refused("controlled", STEP, () -> amountTold(step, CONTROLLED, 1), x -> x.count(8));
            refused("0 units", STEP, () -> amountTold(step, FREE, 0), x -> x.count(9));
        }
    }

    private static DispenseCabinet amountTold(int kind, int item, int units) {
        DispenseCabinet x = begun(NURSE, kind, target(kind, item));
        if (item == CONTROLLED) {
            x.count(9);
        }
        due("amount", x.amount(units, 0, 0), 9 - units);
        return x;
    }

    /** Promise 11: "STEP: .. or it was counted" */
    private static void countTwice() {
        for (int kind : new int[] {TAKE, COUNT, WASTE}) {
            for (int item = FREE; item <= CONTROLLED; item++) {
                int step = kind;
                int of = item;
                refused("kind " + kind, STEP, () -> counted(step, of), x -> x.count(9));
                DispenseCabinet x = counted(kind, item);
                x.shut();
                x.begin(kind, target(kind, item));
                due("in the next step", x.count(9), 0);
            }
        }
    }

    private static DispenseCabinet counted(int kind, int item) {
        DispenseCabinet x = begun(NURSE, kind, target(kind, item));
        due("count", x.count(9), 0);
        return x;
    }

    /** Promise 11: "(and need not be again)": where SHORT asks for it, it may be counted once more. */
    private static void countAgainWhereItMust() {
        for (int kind : new int[] {TAKE, WASTE}) {
            DispenseCabinet x = threeLots(kind);
            due("where it need not", x.count(11), -1);
            for (int units = 10; units > 7; units--) {
                due("not again", x.count(units), STEP);
                due("short", x.amount(13, 0, 0), SHORT);
                due("again", x.count(units), -1);
            }
        }
    }

    /** Promise 11: "FULL: the ledger has 300." */
    private static void countWithFullLedger() {
        for (int kind : new int[] {TAKE, WASTE}) {
            int step = kind;
            due("299", writtenInStep(299, kind, target(kind, FREE)).count(1), 0);
            refused("300", FULL, () -> writtenInStep(300, step, target(step, FREE)), x -> x.count(1));
        }
    }

    /** Promise 11, where several would come: BAD, NOBODY, STEP, FULL. */
    private static void countOrderOfCodes() {
        refused("BAD before NOBODY", BAD, () -> stocked(NOBODY_IN), x -> x.count(-1));
        refused("BAD before STEP", BAD, () -> stocked(NURSE), x -> x.count(10001));
        refused("BAD before FULL", BAD, () -> writtenInStep(300, TAKE, FREE_ORDER), x -> x.count(10001));
        refused("NOBODY before STEP", NOBODY, () -> peopled(), x -> x.count(0));
        refused("STEP before FULL", STEP, AmountsBoundsTest::countedToTheLastEntry, x -> x.count(1));
    }

    /** A TAKE of the free item is counted, and its count was entry 299. */
    private static DispenseCabinet countedToTheLastEntry() {
        DispenseCabinet x = writtenInStep(299, TAKE, FREE_ORDER);
        due("the last", x.count(1), 0);
        return x;
    }

    /** Promise 12: "units, 0 .. 1000", "BAD: units" */
    private static void amountUnits() {
        for (int kind : new int[] {TAKE, FILL, WASTE}) {
            int step = kind;
            DispenseCabinet x = with(PHARMACIST);
            fill(x, 0, 1000, FREE, LATER);
            x.order(FREE, 1000, 0, LATER);
            witness(x, AIDE);
            x.begin(kind, 0);
            due("1001", x.amount(1001, FREE, LATER), BAD);
            due("1000", x.amount(1000, FREE, LATER), kind == FILL ? 2000 : 0);
            due("1", begun(PHARMACIST, kind, target(kind, FREE)).amount(1, FREE, LATER), kind == FILL ? 10 : 8);
            for (int units : new int[] {MIN, -1, 1001, MAX}) {
                refused("amount " + units, BAD, () -> begun(PHARMACIST, step, target(step, FREE)),
                        y -> y.amount(units, FREE, LATER));
            }
        }
        for (int units : new int[] {MIN, -1, 1001, MAX}) {
            refused("COUNT, amount " + units, BAD, () -> begun(PHARMACIST, COUNT, FREE_BIN),
                    y -> y.amount(units, FREE, LATER));
        }
    }

    /** Promise 12: "(0, too, is an entry)" */
    private static void amountOf0IsAnEntry() {
        DispenseCabinet x = begun(NURSE, TAKE, FREE_ORDER);
        due("TAKE", x.amount(0, 0, 0), 9);
        entryIs(x, 2, 2, 0, NURSE, FREE_BIN, 0, FREE_ORDER);
        due("left", x.orderTold(FREE_ORDER, 1), 5);
        due("told", x.amount(0, 0, 0), STEP);
        DispenseCabinet y = begun(NURSE, WASTE, FREE_BIN);
        due("WASTE", y.amount(0, 0, 0), 9);
        entryIs(y, 2, 4, 0, NURSE, FREE_BIN, 0, -1);
        due("told", y.amount(0, 0, 0), STEP);
        DispenseCabinet z = begun(NURSE, WASTE, FREE_BIN);
        z.count(0);
        due("0 of nothing", z.amount(0, 0, 0), 0);
        due("entries", z.told(6), 4);
    }

    /** Promise 12: "are taken of what can be given, by lots in order": to each end of a lot. */
    private static void takenByLotsInOrder() {
        int[][] due = {
            {0, 100, 3, 200, 4, 300, 5}, {1, 100, 3, 200, 3, 300, 5}, {3, 100, 3, 200, 1, 300, 5},
            {4, 100, 3, 300, 5}, {5, 100, 3, 300, 4}, {8, 100, 3, 300, 1}, {9, 100, 3}
        };
        for (int[] row : due) {
            DispenseCabinet x = threeLots(TAKE);
            x.tick(100);
            due("taken " + row[0], x.amount(row[0], 0, 0), 12 - row[0]);
            lotsAre(x, 0, Arrays.copyOfRange(row, 1, row.length));
            due("left", x.orderTold(0, 1), 1000 - row[0]);
        }
        DispenseCabinet x = threeLots(TAKE);
        x.tick(99);
        due("a second before", x.amount(12, 0, 0), 0);
        lotsAre(x, 0);
    }

    /** Promise 12: "or wasted, of all lots in order": to each end of a lot, expired or not. */
    private static void wastedOfAllLotsInOrder() {
        int[][] due = {
            {0, 100, 3, 200, 4, 300, 5}, {2, 100, 1, 200, 4, 300, 5}, {3, 200, 4, 300, 5}, {4, 200, 3, 300, 5},
            {7, 300, 5}, {8, 300, 4}, {11, 300, 1}, {12}
        };
        for (int[] row : due) {
            for (int time : new int[] {0, 100, 300}) {
                DispenseCabinet x = threeLots(WASTE);
                pass(x, time);
                due("wasted " + row[0], x.amount(row[0], 0, 0), 12 - row[0]);
                lotsAre(x, 0, Arrays.copyOfRange(row, 1, row.length));
                due("no order", x.entry(3, 5), -1);
            }
        }
    }

    /** Promise 12: "or come in as a lot, of an item, with an expiry", "the book then" */
    private static void comesInAsLot() {
        DispenseCabinet x = begun(PHARMACIST, FILL, NEW_BIN);
        due("the first", x.amount(1, CONTROLLED, 1), 1);
        lotsAre(x, NEW_BIN, 1, 1);
        due("item", x.bin(NEW_BIN, 0), CONTROLLED);
        entryIs(x, 2, 1, 0, PHARMACIST, NEW_BIN, 1, -1);
        x.shut();
        x.tick(1);
        x.begin(FILL, NEW_BIN);
        due("the second, the first is expired", x.amount(1000, CONTROLLED, MAX), 1001);
        lotsAre(x, NEW_BIN, 1, 1, MAX, 1000);
    }

    /** Promise 12: "(other kinds: any numbers there)" */
    private static void otherKindsTakeAnyNumbers() {
        for (int kind : new int[] {TAKE, WASTE}) {
            for (int number : new int[] {MIN, -1, 0, NO_ITEM, 32, MAX}) {
                DispenseCabinet x = begun(PHARMACIST, kind, target(kind, FREE));
                due("kind " + kind + " number " + number, x.amount(1, number, number), 8);
            }
        }
        due("COUNT", begun(PHARMACIST, COUNT, FREE_BIN).amount(0, MIN, MIN), STEP);
        due("no step", stocked(PHARMACIST).amount(0, MIN, MIN), STEP);
        due("nobody", stocked(NOBODY_IN).amount(0, MIN, MIN), NOBODY);
    }

    /** Promise 12: "for FILL no such item" */
    private static void fillOfNoItem() {
        for (int item : new int[] {MIN, -1, NO_ITEM, 31, 32, MAX}) {
            refused("item " + item, BAD, () -> begun(PHARMACIST, FILL, NEW_BIN), x -> x.amount(1, item, LATER));
        }
        DispenseCabinet x = begun(PHARMACIST, FILL, NEW_BIN);
        x.item(31, false, 0);
        due("item 31", x.amount(1, 31, LATER), 1);
    }

    /** Promise 12: "another one than the bin's" */
    private static void fillOfAnotherItem() {
        refused("controlled", BAD, () -> begun(PHARMACIST, FILL, FREE_BIN), x -> x.amount(1, CONTROLLED, LATER));
        refused("free", BAD, () -> begun(PHARMACIST, FILL, CONTROLLED_BIN), x -> x.amount(1, FREE, LATER));
        due("the bin's", begun(PHARMACIST, FILL, CONTROLLED_BIN).amount(1, CONTROLLED, LATER), 10);
    }

    /** Promise 12: "an expiry that is not behind now" */
    private static void fillExpiry() {
        for (int expiry : new int[] {MIN, -1, 0, 19, 20}) {
            refused("expiry " + expiry + " at 20", BAD, () -> begun(PHARMACIST, FILL, FREE_BIN),
                    x -> x.amount(1, FREE, expiry));
        }
        DispenseCabinet x = begun(PHARMACIST, FILL, FREE_BIN);
        due("expiry 0 at 0", x.amount(1, FREE, 0), BAD);
        x.tick(20);
        due("expiry 21 at 20", x.amount(1, FREE, 21), 10);
        due("given", x.bin(FREE_BIN, 2), 10);
    }

    /** Promise 12: "or 0 units" */
    private static void fillOf0() {
        refused("0", BAD, () -> begun(PHARMACIST, FILL, FREE_BIN), x -> x.amount(0, FREE, LATER));
        refused("0 of no item", BAD, () -> begun(PHARMACIST, FILL, NEW_BIN), x -> x.amount(0, FREE, LATER));
    }

    /** Promise 12: "NOBODY" */
    private static void amountOfNobody() {
        refused("nobody", NOBODY, () -> stocked(NOBODY_IN), x -> x.amount(1, FREE, LATER));
    }

    /** Promise 12: "STEP: none is open" */
    private static void amountWithoutStep() {
        for (int user = NURSE; user <= SECOND; user++) {
            int in = user;
            refused("user " + user, STEP, () -> stocked(in), x -> x.amount(1, FREE, LATER));
        }
    }

    /** Promise 12: "STEP: .. of COUNT" */
    private static void amountOfCount() {
        for (int item = FREE; item <= CONTROLLED; item++) {
            int of = item;
            refused("not counted", STEP, () -> begun(NURSE, COUNT, FREE_BIN + of), x -> x.amount(1, of, LATER));
            refused("counted", STEP, () -> counted(COUNT, of), x -> x.amount(1, of, LATER));
            refused("0 units", STEP, () -> counted(COUNT, of), x -> x.amount(0, of, LATER));
        }
    }

    /** Promise 12: "STEP: .. it must be counted first" */
    private static void amountBeforeCount() {
        for (int kind : new int[] {TAKE, WASTE}) {
            int step = kind;
            refused("controlled", STEP, () -> begun(NURSE, step, target(step, CONTROLLED)), x -> x.amount(1, 0, 0));
            refused("0 units", STEP, () -> begun(NURSE, step, target(step, CONTROLLED)), x -> x.amount(0, 0, 0));
            due("counted", counted(kind, CONTROLLED).amount(1, 0, 0), 8);
            due("free", begun(NURSE, kind, target(kind, FREE)).amount(1, 0, 0), 8);
        }
        due("FILL", begun(PHARMACIST, FILL, CONTROLLED_BIN).amount(1, CONTROLLED, LATER), 10);
    }

    /** Promise 12: "STEP: .. or its amount is told" */
    private static void amountTwice() {
        for (int kind : new int[] {TAKE, WASTE}) {
            int step = kind;
            refused("free", STEP, () -> amountTold(step, FREE, 1), x -> x.amount(1, 0, 0));
            refused("controlled", STEP, () -> amountTold(step, CONTROLLED, 1), x -> x.amount(1, 0, 0));
            refused("0 units", STEP, () -> amountTold(step, FREE, 0), x -> x.amount(1, 0, 0));
        }
        refused("FILL", STEP, AmountsBoundsTest::filled, x -> x.amount(1, FREE, LATER));
        DispenseCabinet x = filled();
        x.shut();
        x.begin(FILL, FREE_BIN);
        due("in the next step", x.amount(1, FREE, LATER), 11);
    }

    private static DispenseCabinet filled() {
        DispenseCabinet x = begun(PHARMACIST, FILL, FREE_BIN);
        due("lot", x.amount(1, FREE, LATER), 10);
        return x;
    }

    /** Promise 12: "ORDER: more units than it has left." */
    private static void amountOverOrder() {
        refused("6 of 5", ORDER, () -> begun(NURSE, TAKE, FREE_ORDER), x -> x.amount(6, 0, 0));
        refused("1000 of 5", ORDER, () -> begun(NURSE, TAKE, FREE_ORDER), x -> x.amount(1000, 0, 0));
        DispenseCabinet x = begun(NURSE, TAKE, FREE_ORDER);
        due("6 of 5", x.amount(6, 0, 0), ORDER);
        due("need not be counted for it", x.told(5), 0);
        due("3 of 5", x.amount(3, 0, 0), 6);
        x.shut();
        x.begin(TAKE, FREE_ORDER);
        due("3 of 2", x.amount(3, 0, 0), ORDER);
        due("2 of 2", x.amount(2, 0, 0), 4);
        due("left", x.orderTold(FREE_ORDER, 1), 0);
        due("more than 5 are wasted", begun(NURSE, WASTE, FREE_BIN).amount(9, 0, 0), 0);
    }

    /** Promise 12: "SHORT: more than can be given", not "than there are". */
    private static void takeShort() {
        DispenseCabinet x = threeLots(TAKE);
        due("13 of 12", x.amount(13, 0, 0), SHORT);
        due("12 of 12", afterCount(x, 12), 0);
        DispenseCabinet y = threeLots(TAKE);
        y.tick(100);
        due("10 of 9, and 3 expired", y.amount(10, 0, 0), SHORT);
        lotsAre(y, 0, 100, 3, 200, 4, 300, 5);
        due("9 of 9", afterCount(y, 9), 3);
        DispenseCabinet z = threeLots(TAKE);
        z.tick(300);
        due("1 of none, and 12 expired", z.amount(1, 0, 0), SHORT);
        due("0 of none", afterCount(z, 0), 12);
    }

    private static int afterCount(DispenseCabinet x, int units) {
        due("count", x.count(12), 0);
        return x.amount(units, 0, 0);
    }

    /** Promise 12: "SHORT: .. or (WASTE) than there are" */
    private static void wasteShort() {
        for (int time : new int[] {0, 100, 300}) {
            DispenseCabinet x = threeLots(WASTE);
            pass(x, time);
            due("13 of 12", x.amount(13, 0, 0), SHORT);
            lotsAre(x, 0, 100, 3, 200, 4, 300, 5);
            due("12 of 12", afterCount(x, 12), 0);
        }
        DispenseCabinet y = threeLots(WASTE);
        y.count(0);
        due("1 of none", y.amount(1, 0, 0), SHORT);
    }

    /** Promise 12: "it must be counted (again) then, though it was": each time, also where it need not be. */
    private static void shortMustBeCountedAgain() {
        for (int kind : new int[] {TAKE, WASTE}) {
            for (int first = 0; first < 2; first++) {
                DispenseCabinet x = threeLots(kind);
                if (first == 1) {
                    due("counted before", x.count(12), 0);
                }
                for (int i = 0; i < 3; i++) {
                    due("need not", x.told(5), 0);
                    due("short", x.amount(13, 0, 0), SHORT);
                    due("must", x.told(5), 1);
                    due("amount", x.amount(1, 0, 0), STEP);
                    due("short amount", x.amount(13, 0, 0), STEP);
                    due("no entry", x.told(6), 3 + first + i);
                    due("count", x.count(12), 0);
                }
                due("amount", x.amount(12, 0, 0), 0);
            }
        }
    }

    /** Promise 12: "FULL: the ledger has 300." */
    private static void amountWithFullLedger() {
        DispenseCabinet x = writtenInStep(298, TAKE, FREE_ORDER);
        x.count(1);
        due("299", x.amount(1, 0, 0), 0);
        due("entries", x.told(6), 300);
        refused("300, TAKE", FULL, AmountsBoundsTest::countedToTheLastEntry, y -> y.amount(1, 0, 0));
        refused("300, 0 units", FULL, AmountsBoundsTest::countedToTheLastEntry, y -> y.amount(0, 0, 0));
        DispenseCabinet z = writtenInStep(299, WASTE, FREE_BIN);
        z.count(1);
        due("300, WASTE", z.amount(1, 0, 0), FULL);
    }

    /** Promise 12, where several would come: BAD, NOBODY, STEP, ORDER, SHORT. */
    private static void amountOrderOfCodes() {
        refused("BAD before NOBODY", BAD, () -> stocked(NOBODY_IN), x -> x.amount(-1, 0, 0));
        refused("BAD before STEP", BAD, () -> stocked(NURSE), x -> x.amount(1001, 0, 0));
        refused("BAD before ORDER", BAD, () -> begun(NURSE, TAKE, FREE_ORDER), x -> x.amount(1001, 0, 0));
        refused("BAD before SHORT", BAD, () -> begun(NURSE, WASTE, FREE_BIN), x -> x.amount(1001, 0, 0));
        refused("BAD of FILL before STEP", BAD, AmountsBoundsTest::filled, x -> x.amount(0, FREE, LATER));
        refused("NOBODY before STEP", NOBODY, () -> peopled(), x -> x.amount(0, 0, 0));
        refused("STEP before ORDER", STEP, () -> begun(NURSE, TAKE, CONTROLLED_ORDER), x -> x.amount(6, 0, 0));
        refused("told, STEP before ORDER", STEP, () -> amountTold(TAKE, FREE, 5), x -> x.amount(1, 0, 0));
        refused("STEP before SHORT", STEP, () -> begun(NURSE, WASTE, CONTROLLED_BIN), x -> x.amount(10, 0, 0));
        refused("ORDER before SHORT", ORDER, () -> begun(NURSE, TAKE, FREE_ORDER), x -> x.amount(10, 0, 0));
    }

    /** Promise 12, where FULL and another would come. */
    private static void amountOrderOfCodesWhenFull() {
        refused("BAD before FULL", BAD, AmountsBoundsTest::countedToTheLastEntry, x -> x.amount(-1, 0, 0));
        refused("STEP before FULL", STEP, () -> writtenInStep(300, TAKE, FREE_ORDER), x -> x.amount(1, 0, 0));
        refused("ORDER before FULL", ORDER, AmountsBoundsTest::countedToTheLastEntry, x -> x.amount(6, 0, 0));
        DispenseCabinet x = countedToTheLastEntry();
        due("SHORT before FULL", x.amount(2, 0, 0), SHORT);
        due("must be counted", x.told(5), 1);
    }
}
