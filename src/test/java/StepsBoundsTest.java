/** The boundary cases of promises 10 and 13, begin and shut; above each test stands the sentence that it is for. */
public final class StepsBoundsTest extends Bounds {
    public static void main(String[] args) {
        beginAnswersTheBin();
        takePicksLeastExpiry();
        takePicksLeastBin();
        takePassesExpiredLots();
        takePassesOtherItems();
        beginOfNoKind();
        beginOfNoOrder();
        beginOfNoBin();
        beginOfBinOfNoItem();
        beginOfNobody();
        beginRoles();
        beginWithOpenStep();
        beginWithoutWitness();
        beginOfOrderNotOpen();
        beginBeforeGapHasPassed();
        beginShort();
        beginWithFullLedger();
        beginFillOfFullBin();
        beginOrderOfCodes();
        beginOrderOfCodesWhenFull();
        beginOrderOfCodesOfFullBin();
        shutAnswersSeconds();
        shutWithoutStep();
        shutOfCountNotCounted();
        shutOfOthersNotCounted();
        shutByNobody();
        shutWithoutAmount();
        CHECK.end();
    }

    /** Promise 10: "A step is begun: its bin, whose lid opens." */
    private static void beginAnswersTheBin() {
        for (int bin : new int[] {0, 63}) {
            DispenseCabinet x = with(PHARMACIST);
            fill(x, bin, 9, FREE, LATER);
            x.order(FREE, 5, 0, LATER);
            witness(x, AIDE);
            for (int kind = TAKE; kind <= WASTE; kind++) {
                due("lid before", x.bin(bin, 5), 0);
                due("kind " + kind, x.begin(kind, kind == TAKE ? 0 : bin), bin);
                due("lid", x.bin(bin, 5), 1);
                x.count(9);
                x.shut();
            }
        }
    }

    /** Promise 10: "of the bins of its item that can give some, the one with the lot of least expiry that can be" */
    private static void takePicksLeastExpiry() {
        for (int first = 0; first < 3; first++) {
            DispenseCabinet x = with(PHARMACIST);
            x.order(FREE, 5, 0, LATER);
            for (int bin = 0; bin < 3; bin++) {
                fill(x, bin, 1, FREE, LATER);
                fill(x, bin, 1, FREE, bin == first ? 99 : 100);
            }
            due("bin of least expiry", x.begin(TAKE, 0), first);
        }
        DispenseCabinet x = with(PHARMACIST);
        x.order(FREE, 5, 0, LATER);
        fill(x, 3, 1000, FREE, MAX - 1);
        fill(x, 2, 1, FREE, MAX);
        due("greatest expiries", x.begin(TAKE, 0), 3);
    }

    /** Promise 10: "of several the least bin" */
    private static void takePicksLeastBin() {
        DispenseCabinet x = with(PHARMACIST);
        x.order(FREE, 5, 0, LATER);
        for (int bin : new int[] {63, 1, 0}) {
            fill(x, bin, 1, FREE, 100);
            due("the least", x.begin(TAKE, 0), bin);
            x.shut();
        }
        fill(x, 2, 1, FREE, 100);
        due("the least yet", x.begin(TAKE, 0), 0);
    }

    /** Promise 10: "that can be": expired lots are passed, from their expiry on, and bins that have no others. */
    private static void takePassesExpiredLots() {
        DispenseCabinet x = with(PHARMACIST);
        x.order(FREE, 5, 0, LATER);
        fill(x, 0, 1, FREE, 50);
        fill(x, 1, 1, FREE, 51);
        fill(x, 1, 1, FREE, 90);
        fill(x, 2, 1, FREE, 80);
        x.tick(49);
        due("at 49", x.begin(TAKE, 0), 0);
        x.shut();
        x.tick(1);
        due("at 50", x.begin(TAKE, 0), 1);
        x.shut();
        x.tick(1);
        due("at 51", x.begin(TAKE, 0), 2);
        x.shut();
        x.tick(29);
        due("at 80", x.begin(TAKE, 0), 1);
        x.shut();
        x.tick(10);
        due("at 90", x.begin(TAKE, 0), SHORT);
    }

    /** Promise 10: "of the bins of its item" */
    private static void takePassesOtherItems() {
        DispenseCabinet x = with(PHARMACIST);
        fill(x, 0, 1, CONTROLLED, 10);
        fill(x, 9, 1, FREE, 100);
        fill(x, 1, 1, CONTROLLED, 200);
        x.order(FREE, 5, 0, LATER);
        x.order(CONTROLLED, 5, 0, LATER);
        witness(x, AIDE);
        due("free", x.begin(TAKE, 0), 9);
        x.shut();
        due("controlled", x.begin(TAKE, 1), 0);
        x.shut();
        countTo(x, 9, 0);
        due("an empty bin gives none", x.begin(TAKE, 0), SHORT);
    }

    /** Promise 10: "BAD: no such kind" */
    private static void beginOfNoKind() {
        for (int kind : new int[] {MIN, -1, 4, MAX}) {
            refused("kind " + kind, BAD, () -> witnessed(PHARMACIST), x -> x.begin(kind, FREE_BIN));
            refused("kind " + kind, BAD, () -> witnessed(PHARMACIST), x -> x.begin(kind, FREE_ORDER));
        }
    }

    /** Promise 10: "BAD: no such .. order" */
    private static void beginOfNoOrder() {
        for (int order : new int[] {MIN, -1, NO_ORDER, FREE_BIN, 60, MAX}) {
            refused("order " + order, BAD, () -> witnessed(PHARMACIST), x -> x.begin(TAKE, order));
        }
        DispenseCabinet x = stocked(PHARMACIST);
        for (int i = NO_ORDER; i < 60; i++) {
            x.order(FREE, 1, 0, LATER);
        }
        due("order 59", x.begin(TAKE, 59), FREE_BIN);
        x.shut();
        due("order 60", x.begin(TAKE, 60), BAD);
    }

    /** Promise 10: "BAD: no such .. bin" */
    private static void beginOfNoBin() {
        for (int kind = FILL; kind <= WASTE; kind++) {
            int step = kind;
            for (int bin : new int[] {MIN, -1, 64, MAX}) {
                refused("bin " + bin, BAD, () -> witnessed(PHARMACIST), x -> x.begin(step, bin));
            }
        }
    }

    /** Promise 10: "BAD: .. a bin of no item for COUNT and WASTE." */
    private static void beginOfBinOfNoItem() {
        refused("COUNT", BAD, () -> witnessed(PHARMACIST), x -> x.begin(COUNT, NEW_BIN));
        refused("WASTE", BAD, () -> witnessed(PHARMACIST), x -> x.begin(WASTE, NEW_BIN));
        due("FILL", witnessed(PHARMACIST).begin(FILL, NEW_BIN), NEW_BIN);
        DispenseCabinet x = witnessed(PHARMACIST);
        countTo(x, FREE_BIN, 0);
        due("COUNT of an empty one of an item", x.begin(COUNT, FREE_BIN), FREE_BIN);
        x.count(0);
        x.shut();
        due("WASTE of an empty one of an item", x.begin(WASTE, FREE_BIN), FREE_BIN);
    }

    /** Promise 10: "NOBODY" */
    private static void beginOfNobody() {
        for (int kind = TAKE; kind <= WASTE; kind++) {
            int step = kind;
            refused("kind " + kind, NOBODY, () -> stocked(NOBODY_IN), x -> x.begin(step, target(step, FREE)));
        }
    }

    /** Promise 10: "ROLE" */
    private static void beginRoles() {
        for (int kind = TAKE; kind <= WASTE; kind++) {
            int step = kind;
            refused("aide, kind " + kind, ROLE, () -> witnessed(AIDE), x -> x.begin(step, target(step, FREE)));
            due("pharmacist", witnessed(PHARMACIST).begin(kind, target(kind, FREE)), FREE_BIN);
        }
        refused("nurse, FILL", ROLE, () -> witnessed(NURSE), x -> x.begin(FILL, FREE_BIN));
        due("nurse, TAKE", witnessed(NURSE).begin(TAKE, FREE_ORDER), FREE_BIN);
        due("nurse, COUNT", witnessed(NURSE).begin(COUNT, FREE_BIN), FREE_BIN);
        due("nurse, WASTE", witnessed(NURSE).begin(WASTE, FREE_BIN), FREE_BIN);
    }

    /** Promise 10: "STEP" */
    private static void beginWithOpenStep() {
        for (int kind = TAKE; kind <= WASTE; kind++) {
            int step = kind;
            for (int other = TAKE; other <= WASTE; other++) {
                int next = other;
                refused("the same bin", STEP, () -> begun(PHARMACIST, step, target(step, FREE)),
                        x -> x.begin(next, target(next, FREE)));
                refused("another bin", STEP, () -> begun(PHARMACIST, step, target(step, FREE)),
                        x -> x.begin(next, target(next, CONTROLLED)));
            }
        }
        DispenseCabinet x = begun(PHARMACIST, TAKE, FREE_ORDER);
        x.amount(1, 0, 0);
        due("its amount is told", x.begin(FILL, NEW_BIN), STEP);
        x.shut();
        due("shut", x.begin(FILL, NEW_BIN), NEW_BIN);
    }

    /** Promise 10: "WITNESS" */
    private static void beginWithoutWitness() {
        refused("WASTE", WITNESS, () -> stocked(PHARMACIST), x -> x.begin(WASTE, FREE_BIN));
        refused("WASTE, controlled", WITNESS, () -> stocked(PHARMACIST), x -> x.begin(WASTE, CONTROLLED_BIN));
        refused("TAKE, controlled", WITNESS, () -> stocked(PHARMACIST), x -> x.begin(TAKE, CONTROLLED_ORDER));
        due("TAKE", stocked(PHARMACIST).begin(TAKE, FREE_ORDER), FREE_BIN);
        due("FILL, controlled", stocked(PHARMACIST).begin(FILL, CONTROLLED_BIN), CONTROLLED_BIN);
        due("COUNT, controlled", stocked(PHARMACIST).begin(COUNT, CONTROLLED_BIN), CONTROLLED_BIN);
    }

    /** Promise 10: "ORDER": it is cancelled, has ended, or has nothing left. */
    private static void beginOfOrderNotOpen() {
        refused("cancelled", ORDER, () -> witnessed(PHARMACIST), x -> x.begin(TAKE, CANCELLED_ORDER));
        DispenseCabinet x = stocked(PHARMACIST);
        x.order(FREE, 2, 0, 60);
        x.tick(59);
        due("before its end", x.begin(TAKE, NO_ORDER), FREE_BIN);
        x.shut();
        x.tick(1);
        due("at its end", x.begin(TAKE, NO_ORDER), ORDER);
        x.begin(TAKE, FREE_ORDER);
        x.amount(5, 0, 0);
        x.shut();
        due("nothing left", x.begin(TAKE, FREE_ORDER), ORDER);
    }

    /** Promise 10: "ORDER", of "or its gap has not passed": of each order by itself. */
    private static void beginBeforeGapHasPassed() {
        DispenseCabinet x = stocked(PHARMACIST);
        x.order(FREE, 5, 1, LATER);
        x.order(FREE, 5, 1, LATER);
        x.begin(TAKE, NO_ORDER);
        x.amount(1, 0, 0);
        x.shut();
        due("0 seconds", x.begin(TAKE, NO_ORDER), ORDER);
        due("of another order", x.begin(TAKE, NO_ORDER + 1), FREE_BIN);
        x.shut();
        x.tick(1);
        due("1 second", x.begin(TAKE, NO_ORDER), FREE_BIN);
    }

    /** Promise 10: "SHORT: no bin can give any" */
    private static void beginShort() {
        refused("no bins", SHORT, () -> orderedOnly(PHARMACIST), x -> x.begin(TAKE, FREE_ORDER));
        refused("expired", SHORT, StepsBoundsTest::expired, x -> x.begin(TAKE, FREE_ORDER));
        DispenseCabinet x = expired();
        fill(x, 0, 1, FREE, 61);
        due("one unit", x.begin(TAKE, FREE_ORDER), 0);
        due("COUNT of expired lots", expired().begin(COUNT, FREE_BIN), FREE_BIN);
        DispenseCabinet y = begun(PHARMACIST, COUNT, FREE_BIN);
        y.count(0);
        y.shut();
        due("empty", y.begin(TAKE, FREE_ORDER), SHORT);
    }

    private static DispenseCabinet orderedOnly(int user) {
        DispenseCabinet x = with(PHARMACIST);
        x.order(FREE, 5, 0, LATER);
        x.order(CONTROLLED, 5, 0, LATER);
        enter(x, user);
        return x;
    }

    private static DispenseCabinet expired() {
        DispenseCabinet x = orderedOnly(PHARMACIST);
        fill(x, FREE_BIN, 9, FREE, 60);
        x.tick(60);
        return x;
    }

    /** Promise 10: "FULL: the ledger has 290 entries" */
    private static void beginWithFullLedger() {
        for (int kind = TAKE; kind <= WASTE; kind++) {
            int step = kind;
            DispenseCabinet with289 = writtenAndWitnessed(289, PHARMACIST);
            due("289, kind " + kind, with289.begin(kind, target(kind, CONTROLLED)), CONTROLLED_BIN);
            refused("290, kind " + kind, FULL, () -> writtenAndWitnessed(290, PHARMACIST),
                    x -> x.begin(step, target(step, CONTROLLED)));
        }
        DispenseCabinet x = writtenInStep(300, TAKE, FREE_ORDER);
        x.shut();
        due("300", x.begin(COUNT, FREE_BIN), FULL);
    }

    private static DispenseCabinet sixLots(int user) {
        DispenseCabinet x = stocked(PHARMACIST);
        for (int i = 2; i <= 6; i++) {
            fill(x, FREE_BIN, i, FREE, LATER);
        }
        enter(x, user);
        return x;
    }

    /** Promise 10: "FULL: .. or (FILL) the bin 6 lots." */
    private static void beginFillOfFullBin() {
        refused("6 lots", FULL, () -> sixLots(PHARMACIST), x -> x.begin(FILL, FREE_BIN));
        DispenseCabinet x = sixLots(PHARMACIST);
        due("another bin", x.begin(FILL, CONTROLLED_BIN), CONTROLLED_BIN);
        x.shut();
        due("TAKE", x.begin(TAKE, FREE_ORDER), FREE_BIN);
        x.amount(5, 0, 0);
        x.shut();
        due("6 lots, the first with less", x.begin(FILL, FREE_BIN), FULL);
        due("COUNT", x.begin(COUNT, FREE_BIN), FREE_BIN);
        x.count(20);
        x.shut();
        due("5 lots", x.begin(FILL, FREE_BIN), FREE_BIN);
    }

    /** Promise 10, where several would come: BAD, NOBODY, ROLE, STEP, WITNESS, ORDER, SHORT. */
    private static void beginOrderOfCodes() {
        refused("BAD before NOBODY", BAD, () -> stocked(NOBODY_IN), x -> x.begin(COUNT, NEW_BIN));
        refused("BAD before ROLE", BAD, () -> stocked(AIDE), x -> x.begin(TAKE, NO_ORDER));
        refused("BAD before STEP", BAD, () -> begun(NURSE, COUNT, FREE_BIN), x -> x.begin(COUNT, NEW_BIN));
        refused("BAD before WITNESS", BAD, () -> stocked(NURSE), x -> x.begin(WASTE, NEW_BIN));
        refused("NOBODY before WITNESS", NOBODY, () -> stocked(NOBODY_IN), x -> x.begin(WASTE, FREE_BIN));
        refused("NOBODY before ORDER", NOBODY, () -> stocked(NOBODY_IN), x -> x.begin(TAKE, CANCELLED_ORDER));
        refused("NOBODY before SHORT", NOBODY, () -> orderedOnly(NOBODY_IN), x -> x.begin(TAKE, FREE_ORDER));
        refused("ROLE before STEP", ROLE, () -> begun(NURSE, COUNT, FREE_BIN), x -> x.begin(FILL, FREE_BIN));
        refused("ROLE before WITNESS", ROLE, () -> stocked(AIDE), x -> x.begin(WASTE, FREE_BIN));
        refused("ROLE before ORDER", ROLE, () -> witnessed(AIDE), x -> x.begin(TAKE, CANCELLED_ORDER));
        refused("ROLE before SHORT", ROLE, () -> orderedOnly(AIDE), x -> x.begin(TAKE, FREE_ORDER));
        refused("STEP before WITNESS", STEP, StepsBoundsTest::begunAlone, x -> x.begin(WASTE, FREE_BIN));
        refused("STEP before ORDER", STEP, () -> begun(NURSE, COUNT, FREE_BIN), x -> x.begin(TAKE, CANCELLED_ORDER));
        refused("STEP before SHORT", STEP, StepsBoundsTest::begunOfNothing, x -> x.begin(TAKE, FREE_ORDER));
        refused("WITNESS before ORDER", WITNESS, () -> stocked(NURSE), x -> x.begin(TAKE, CANCELLED_ORDER));
        refused("WITNESS before SHORT", WITNESS, () -> orderedOnly(NURSE), x -> x.begin(TAKE, CONTROLLED_ORDER));
        refused("ORDER before SHORT", ORDER, StepsBoundsTest::cancelledOfNothing, x -> x.begin(TAKE, FREE_ORDER));
    }

    private static DispenseCabinet begunAlone() {
        DispenseCabinet x = stocked(PHARMACIST);
        x.begin(COUNT, FREE_BIN);
        return x;
    }

    private static DispenseCabinet begunOfNothing() {
        DispenseCabinet x = orderedOnly(PHARMACIST);
        x.begin(FILL, NEW_BIN);
        return x;
    }

    private static DispenseCabinet cancelledOfNothing() {
        DispenseCabinet x = orderedOnly(PHARMACIST);
        x.cancel(FREE_ORDER);
        return x;
    }

    /** Promise 10, where FULL of the ledger and another would come. */
    private static void beginOrderOfCodesWhenFull() {
        refused("BAD before FULL", BAD, () -> written(290, PHARMACIST), x -> x.begin(COUNT, NEW_BIN));
        refused("NOBODY before FULL", NOBODY, () -> written(290, NOBODY_IN), x -> x.begin(COUNT, FREE_BIN));
        refused("ROLE before FULL", ROLE, () -> written(290, NURSE), x -> x.begin(FILL, FREE_BIN));
        refused("STEP before FULL", STEP, () -> writtenInStep(290, TAKE, FREE_ORDER), x -> x.begin(COUNT, FREE_BIN));
        refused("WITNESS before FULL", WITNESS, () -> written(290, NURSE), x -> x.begin(WASTE, FREE_BIN));
        refused("ORDER before FULL", ORDER, () -> writtenAndWitnessed(290, NURSE), x -> x.begin(TAKE, CANCELLED_ORDER));
        refused("SHORT before FULL", SHORT, StepsBoundsTest::fullOfNothing, x -> x.begin(TAKE, FREE_ORDER));
    }

    private static DispenseCabinet fullOfNothing() {
        DispenseCabinet x = orderedOnly(PHARMACIST);
        giveBackUntil(x, 290);
        return x;
    }

    /** Promise 10, where FULL of the bin and another would come. */
    private static void beginOrderOfCodesOfFullBin() {
        refused("NOBODY before FULL", NOBODY, () -> sixLots(NOBODY_IN), x -> x.begin(FILL, FREE_BIN));
        refused("ROLE before FULL", ROLE, () -> sixLots(NURSE), x -> x.begin(FILL, FREE_BIN));
        DispenseCabinet x = sixLots(PHARMACIST);
        x.begin(COUNT, FREE_BIN);
        due("STEP before FULL", x.begin(FILL, FREE_BIN), STEP);
    }

    /** Promise 13: "The lid is shut, the step ends: for how many seconds it was open." */
    private static void shutAnswersSeconds() {
        for (int kind = TAKE; kind <= WASTE; kind++) {
            for (int seconds : new int[] {0, 1, 40, 1000}) {
                DispenseCabinet x = witnessed(PHARMACIST);
                x.tick(3);
                x.begin(kind, target(kind, FREE));
                x.count(9);
                pass(x, seconds);
                due("open for " + seconds, x.shut(), seconds);
                due("no step", x.told(3), -1);
                due("lid", x.bin(FREE_BIN, 5), 0);
            }
        }
    }

    /** Promise 13: "STEP: none is open" */
    private static void shutWithoutStep() {
        refused("none", STEP, () -> witnessed(PHARMACIST), x -> x.shut());
        DispenseCabinet x = begun(PHARMACIST, FILL, FREE_BIN);
        due("once", x.shut(), 0);
        due("twice", x.shut(), STEP);
    }

    /** Promise 13: "STEP: .. or COUNT that is not counted." */
    private static void shutOfCountNotCounted() {
        refused("free", STEP, () -> begun(PHARMACIST, COUNT, FREE_BIN), x -> x.shut());
        refused("controlled", STEP, () -> begun(NURSE, COUNT, CONTROLLED_BIN), x -> x.shut());
        DispenseCabinet x = begun(PHARMACIST, COUNT, FREE_BIN);
        x.count(-1);
        due("a refused count is none", x.shut(), STEP);
        x.count(0);
        due("counted", x.shut(), 0);
    }

    /** Promise 13: only COUNT must be counted for it, also where SHORT wants a count. */
    private static void shutOfOthersNotCounted() {
        for (int kind : new int[] {TAKE, FILL, WASTE}) {
            due("not counted, kind " + kind, begun(PHARMACIST, kind, target(kind, CONTROLLED)).shut(), 0);
        }
        DispenseCabinet x = begun(PHARMACIST, WASTE, FREE_BIN);
        due("short", x.amount(10, 0, 0), SHORT);
        due("not counted again", x.shut(), 0);
        due("a new one need not be counted", x.begin(WASTE, FREE_BIN), FREE_BIN);
        due("nor must it", x.told(5), 0);
    }

    /** Promise 13: "(Whoever is in, or nobody.": nobody is in only while no step is open. */
    private static void shutByNobody() {
        refused("nobody, and no step", STEP, () -> stocked(NOBODY_IN), x -> x.shut());
        refused("an aide, and no step", STEP, () -> stocked(AIDE), x -> x.shut());
        due("a nurse's step", begun(NURSE, TAKE, FREE_ORDER).shut(), 0);
        due("a pharmacist's step", begun(PHARMACIST, TAKE, FREE_ORDER).shut(), 0);
    }

    /** Promise 13: "A step without an amount comes to nothing.)" */
    private static void shutWithoutAmount() {
        for (int kind : new int[] {TAKE, FILL, WASTE}) {
            DispenseCabinet x = begun(PHARMACIST, kind, target(kind, FREE));
            x.tick(9);
            due("shut", x.shut(), 9);
            due("entries", x.told(6), 2);
            due("left", x.orderTold(FREE_ORDER, 1), 5);
            lotsAre(x, FREE_BIN, LATER, 9);
            due("doubt", x.bin(FREE_BIN, 3), 0);
        }
    }
}
