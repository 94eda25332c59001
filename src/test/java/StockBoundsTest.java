/** The boundary cases of promises 14 to 20, 22 and 23; above each test stands the sentence that it is for. */
public final class StockBoundsTest extends Bounds {
    public static void main(String[] args) {
        givesBackUnits();
        givesBackOfNoItem();
        givesBackHowMany();
        givesBackToAPlaceOfItsOwn();
        givesBackOfNobody();
        givesBackRoles();
        givesBackWithOpenStep();
        givesBackWithoutWitness();
        givesBackWithFullLedger();
        givesBackOrderOfCodes();
        reconcileOfNothing();
        reconcileOfAllBins();
        reconcileOfDoubts();
        reconcileOfControlled();
        reconcileCountsAllAsNotCounted();
        reconcileOfNobody();
        reconcileRoles();
        reconcileWithOpenStep();
        reconcileWithoutWitness();
        reconcileWithFullLedger();
        reconcileOrderOfCodes();
        mismatchNumbers();
        mismatchOfTheLatest();
        binNumbers();
        binWhats();
        lotNumbers();
        stockOfNoItem();
        stockWhats();
        stockBelowPar();
        wantedNumbers();
        alarmOfLid();
        alarmOfLock();
        alarmOfPar();
        alarmOfCopy();
        alarmOfExpiry();
        alarmsTogether();
        toldWhats();
        toldOfNone();
        CHECK.end();
    }

    /** Promise 14: "Units, 1 .. 1000", "BAD" */
    private static void givesBackUnits() {
        due("1", stocked(NURSE).giveBack(FREE, 1), 1);
        due("1000", stocked(NURSE).giveBack(FREE, 1000), 1000);
        for (int units : new int[] {MIN, -1, 0, 1001, MAX}) {
            refused(units + " units", BAD, () -> stocked(NURSE), x -> x.giveBack(FREE, units));
        }
    }

    /** Promise 14: "BAD", of an item that is none. */
    private static void givesBackOfNoItem() {
        for (int item : new int[] {MIN, -1, NO_ITEM, 31, 32, MAX}) {
            refused("item " + item, BAD, () -> stocked(NURSE), x -> x.giveBack(item, 1));
        }
    }

    /** Promise 14: "how many of that item are there", up to all that a ledger can hold. */
    private static void givesBackHowMany() {
        DispenseCabinet x = stocked(NURSE);
        for (int i = 1; i <= 288; i++) {
            due("back " + i, x.giveBack(FREE, 1000), 1000 * i);
        }
        due("all", x.stock(FREE, 2), 288000);
        due("of another", x.stock(CONTROLLED, 2), 0);
    }

    /** Promise 14: "to a place of their own": no bin, no stock; "5 given back (bin: -1 less the item)". */
    private static void givesBackToAPlaceOfItsOwn() {
        DispenseCabinet x = witnessed(NURSE);
        x.item(31, false, 1);
        due("free", x.giveBack(FREE, 4), 4);
        due("controlled", x.giveBack(CONTROLLED, 5), 5);
        due("of item 31", x.giveBack(31, 6), 6);
        entryIs(x, 2, 5, 0, NURSE, -1, 4, -1);
        entryIs(x, 3, 5, 0, NURSE, -2, 5, -1);
        entryIs(x, 4, 5, 0, NURSE, -32, 6, -1);
        due("book", x.bin(FREE_BIN, 1), 9);
        due("stock", x.stock(FREE, 0), 9);
        due("wanted", x.wanted(0), 31);
        due("audit", x.audit(), 0);
    }

    /** Promise 14: "NOBODY" */
    private static void givesBackOfNobody() {
        refused("nobody", NOBODY, () -> stocked(NOBODY_IN), x -> x.giveBack(FREE, 1));
    }

    /** Promise 14: "ROLE: not 0 or 1" */
    private static void givesBackRoles() {
        refused("aide", ROLE, () -> witnessed(AIDE), x -> x.giveBack(FREE, 1));
        due("nurse", witnessed(NURSE).giveBack(CONTROLLED, 1), 1);
        due("pharmacist", witnessed(PHARMACIST).giveBack(CONTROLLED, 1), 1);
    }

    /** Promise 14: "STEP: one is open" */
    private static void givesBackWithOpenStep() {
        for (int kind = TAKE; kind <= WASTE; kind++) {
            int step = kind;
            refused("kind " + kind, STEP, () -> begun(PHARMACIST, step, target(step, FREE)), x -> x.giveBack(FREE, 1));
        }
        DispenseCabinet x = begun(PHARMACIST, FILL, FREE_BIN);
        x.shut();
        due("shut", x.giveBack(FREE, 1), 1);
    }

    /** Promise 14: "WITNESS, if it is controlled" */
    private static void givesBackWithoutWitness() {
        refused("controlled", WITNESS, () -> stocked(NURSE), x -> x.giveBack(CONTROLLED, 1));
        due("free", stocked(NURSE).giveBack(FREE, 1), 1);
        due("with a witness", witnessed(NURSE).giveBack(CONTROLLED, 1), 1);
    }

    /** Promise 14: "FULL: the ledger has 290 entries." */
    private static void givesBackWithFullLedger() {
        due("289", written(289, NURSE).giveBack(FREE, 1), 288);
        refused("290", FULL, () -> written(290, NURSE), x -> x.giveBack(FREE, 1));
        DispenseCabinet x = writtenInStep(300, TAKE, FREE_ORDER);
        x.shut();
        due("300", x.giveBack(FREE, 1), FULL);
    }

    /** Promise 14, where several would come: BAD, NOBODY, ROLE, STEP, WITNESS, FULL. */
    private static void givesBackOrderOfCodes() {
        refused("BAD before NOBODY", BAD, () -> stocked(NOBODY_IN), x -> x.giveBack(NO_ITEM, 1));
        refused("BAD before ROLE", BAD, () -> stocked(AIDE), x -> x.giveBack(FREE, 0));
        refused("BAD before STEP", BAD, () -> begun(NURSE, COUNT, FREE_BIN), x -> x.giveBack(FREE, 1001));
        refused("BAD before WITNESS", BAD, () -> stocked(NURSE), x -> x.giveBack(CONTROLLED, 0));
        refused("BAD before FULL", BAD, () -> written(290, NURSE), x -> x.giveBack(FREE, 0));
        refused("NOBODY before WITNESS", NOBODY, () -> stocked(NOBODY_IN), x -> x.giveBack(CONTROLLED, 1));
        refused("NOBODY before FULL", NOBODY, () -> written(290, NOBODY_IN), x -> x.giveBack(FREE, 1));
        refused("ROLE before WITNESS", ROLE, () -> stocked(AIDE), x -> x.giveBack(CONTROLLED, 1));
        refused("ROLE before FULL", ROLE, () -> written(290, AIDE), x -> x.giveBack(FREE, 1));
        refused("STEP before WITNESS", STEP, StockBoundsTest::begunAlone, x -> x.giveBack(CONTROLLED, 1));
        refused("STEP before FULL", STEP, () -> writtenInStep(290, TAKE, FREE_ORDER), x -> x.giveBack(FREE, 1));
        refused("WITNESS before FULL", WITNESS, () -> written(290, NURSE), x -> x.giveBack(CONTROLLED, 1));
    }

    private static DispenseCabinet begunAlone() {
        DispenseCabinet x = stocked(NURSE);
        x.begin(TAKE, FREE_ORDER);
        return x;
    }

    /** Promise 15: "How many bins": none, and an entry all the same. */
    private static void reconcileOfNothing() {
        DispenseCabinet x = with(NURSE);
        witness(x, AIDE);
        due("none", x.reconcile(), 0);
        due("no mismatch", x.mismatch(0), BAD);
        entryIs(x, 0, 6, 0, NURSE, -1, 0, -1);
    }

    /** Promise 15: "How many bins": all 64. */
    private static void reconcileOfAllBins() {
        DispenseCabinet x = with(PHARMACIST);
        for (int bin = 0; bin <= 63; bin++) {
            fill(x, bin, 1, CONTROLLED, LATER);
        }
        witness(x, AIDE);
        due("all", x.reconcile(), 64);
        for (int i = 0; i <= 63; i++) {
            due("mismatch", x.mismatch(i), i);
        }
        due("behind the last", x.mismatch(64), BAD);
        entryIs(x, 64, 6, 0, PHARMACIST, -1, 64, -1);
    }

    /** Promise 15: "have a doubt that is not 0" */
    private static void reconcileOfDoubts() {
        for (int doubt = -1; doubt <= 1; doubt++) {
            DispenseCabinet x = witnessed(PHARMACIST);
            countTo(x, FREE_BIN, 9 + doubt);
            countTo(x, CONTROLLED_BIN, 9);
            due("doubt " + doubt, x.reconcile(), doubt == 0 ? 0 : 1);
            due("mismatch", x.mismatch(0), doubt == 0 ? BAD : FREE_BIN);
        }
        DispenseCabinet y = witnessed(PHARMACIST);
        countTo(y, CONTROLLED_BIN, 8);
        due("counted, and with a doubt", y.reconcile(), 1);
        due("both", y.reconcile(), 1);
        countTo(y, CONTROLLED_BIN, 8);
        due("counted again", y.reconcile(), 0);
    }

    /** Promise 15: "or are of a controlled item and were not counted since the latest reconcile()" */
    private static void reconcileOfControlled() {
        DispenseCabinet x = witnessed(PHARMACIST);
        due("controlled, not counted", x.reconcile(), 1);
        due("mismatch", x.mismatch(0), CONTROLLED_BIN);
        countTo(x, CONTROLLED_BIN, 9);
        due("counted in COUNT", x.reconcile(), 0);
        x.begin(TAKE, CONTROLLED_ORDER);
        x.count(9);
        x.shut();
        due("counted in TAKE", x.reconcile(), 0);
        x.begin(WASTE, CONTROLLED_BIN);
        x.count(9);
        x.shut();
        due("counted in WASTE", x.reconcile(), 0);
        x.begin(FILL, CONTROLLED_BIN);
        x.amount(1, CONTROLLED, LATER);
        x.shut();
        due("FILL is no count", x.reconcile(), 1);
        countTo(x, CONTROLLED_BIN, 10);
        countTo(x, FREE_BIN, 9);
        due("counted when 10 were there", x.reconcile(), 0);
        due("an empty one, too", emptied().reconcile(), 1);
    }

    private static DispenseCabinet emptied() {
        DispenseCabinet x = begun(PHARMACIST, WASTE, CONTROLLED_BIN);
        x.count(9);
        x.amount(9, 0, 0);
        x.shut();
        due("counted", x.reconcile(), 0);
        return x;
    }

    /** Promise 15: "and all count as not counted", also those that were no mismatches. */
    private static void reconcileCountsAllAsNotCounted() {
        DispenseCabinet x = witnessed(PHARMACIST);
        fill(x, NEW_BIN, 1, CONTROLLED, LATER);
        countTo(x, CONTROLLED_BIN, 9);
        due("one was counted", x.reconcile(), 1);
        due("mismatch", x.mismatch(0), NEW_BIN);
        due("none was counted", x.reconcile(), 2);
        countTo(x, CONTROLLED_BIN, 9);
        due("refused", x.begin(COUNT, FREE_BIN), FREE_BIN);
        due("by a step", x.reconcile(), STEP);
        x.count(9);
        x.shut();
        due("which left the count", x.reconcile(), 1);
    }

    /** Promise 15: "NOBODY" */
    private static void reconcileOfNobody() {
        refused("nobody", NOBODY, () -> stocked(NOBODY_IN), x -> x.reconcile());
    }

    /** Promise 15: "ROLE: not 0 or 1" */
    private static void reconcileRoles() {
        refused("aide", ROLE, () -> witnessed(AIDE), x -> x.reconcile());
        due("nurse", witnessed(NURSE).reconcile(), 1);
        due("pharmacist", witnessed(PHARMACIST).reconcile(), 1);
    }

    /** Promise 15: "STEP: one is open" */
    private static void reconcileWithOpenStep() {
        for (int kind = TAKE; kind <= WASTE; kind++) {
            int step = kind;
            refused("kind " + kind, STEP, () -> begun(PHARMACIST, step, target(step, FREE)), x -> x.reconcile());
        }
    }

    /** Promise 15: "WITNESS", also where no item is controlled. */
    private static void reconcileWithoutWitness() {
        refused("nurse", WITNESS, () -> stocked(NURSE), x -> x.reconcile());
        refused("pharmacist", WITNESS, () -> stocked(PHARMACIST), x -> x.reconcile());
        refused("no bins", WITNESS, () -> with(NURSE), x -> x.reconcile());
    }

    /** Promise 15: "FULL: the ledger has 290 entries." */
    private static void reconcileWithFullLedger() {
        due("289", writtenAndWitnessed(289, NURSE).reconcile(), 1);
        refused("290", FULL, () -> writtenAndWitnessed(290, NURSE), x -> x.reconcile());
    }

    /** Promise 15, where several would come: NOBODY, ROLE, STEP, WITNESS, FULL. */
    private static void reconcileOrderOfCodes() {
        refused("NOBODY before WITNESS", NOBODY, () -> with(NOBODY_IN), x -> x.reconcile());
        refused("NOBODY before FULL", NOBODY, () -> written(290, NOBODY_IN), x -> x.reconcile());
        refused("ROLE before WITNESS", ROLE, () -> stocked(AIDE), x -> x.reconcile());
        refused("ROLE before FULL", ROLE, () -> writtenAndWitnessed(290, AIDE), x -> x.reconcile());
        refused("STEP before WITNESS", STEP, StockBoundsTest::begunAlone, x -> x.reconcile());
        refused("STEP before FULL", STEP, () -> writtenInStep(290, TAKE, FREE_ORDER), x -> x.reconcile());
        refused("WITNESS before FULL", WITNESS, () -> written(290, NURSE), x -> x.reconcile());
    }

    /** Promise 16: "BAD: there is none." */
    private static void mismatchNumbers() {
        due("before any reconcile", witnessed(NURSE).mismatch(0), BAD);
        DispenseCabinet x = witnessed(PHARMACIST);
        fill(x, 63, 1, CONTROLLED, LATER);
        fill(x, 0, 1, CONTROLLED, LATER);
        due("three", x.reconcile(), 3);
        for (int i : new int[] {MIN, -1, 3, 63, 64, MAX}) {
            due("mismatch " + i, x.mismatch(i), BAD);
        }
        due("by bins, 0", x.mismatch(0), 0);
        due("by bins, 1", x.mismatch(1), CONTROLLED_BIN);
        due("by bins, 2", x.mismatch(2), 63);
    }

    /** Promise 16: "Mismatch i of the latest reconcile()": it stays as it was then, and no earlier one is seen. */
    private static void mismatchOfTheLatest() {
        DispenseCabinet x = witnessed(PHARMACIST);
        fill(x, NEW_BIN, 1, CONTROLLED, LATER);
        due("two", x.reconcile(), 2);
        countTo(x, CONTROLLED_BIN, 9);
        due("a count changes it not", x.mismatch(0), CONTROLLED_BIN);
        due("one", x.reconcile(), 1);
        due("the other", x.mismatch(0), NEW_BIN);
        due("none of before", x.mismatch(1), BAD);
        countTo(x, CONTROLLED_BIN, 9);
        countTo(x, NEW_BIN, 1);
        due("none", x.reconcile(), 0);
        due("none at all", x.mismatch(0), BAD);
    }

    /** Promise 17: "BAD: no such bin" */
    private static void binNumbers() {
        for (int what = 0; what <= 5; what++) {
            for (int bin : new int[] {MIN, -1, 64, MAX}) {
                due("bin " + bin, stocked(NURSE).bin(bin, what), BAD);
            }
            due("bin 0", stocked(NURSE).bin(0, what), what == 0 ? -1 : 0);
            due("bin 63", stocked(NURSE).bin(63, what), what == 0 ? -1 : 0);
        }
    }

    /** Promise 17: "or what", and each that is one. */
    private static void binWhats() {
        DispenseCabinet x = witnessed(PHARMACIST);
        fill(x, CONTROLLED_BIN, 4, CONTROLLED, 50);
        x.tick(50);
        x.begin(COUNT, CONTROLLED_BIN);
        x.count(12);
        int[] due = {CONTROLLED, 12, 9, -1, 2, 1};
        for (int what = 0; what <= 5; what++) {
            due("what " + what, x.bin(CONTROLLED_BIN, what), due[what]);
        }
        for (int what : new int[] {MIN, -1, 6, MAX}) {
            due("what " + what, x.bin(CONTROLLED_BIN, what), BAD);
            due("both", x.bin(64, what), BAD);
        }
    }

    /** Promise 18: "BAD: there is none." */
    private static void lotNumbers() {
        DispenseCabinet x = stocked(PHARMACIST);
        for (int i = 1; i < 6; i++) {
            due("behind the last", x.lot(FREE_BIN, i, false), BAD);
            fill(x, FREE_BIN, i, FREE, LATER + i);
            due("units", x.lot(FREE_BIN, i, false), i);
            due("expiry", x.lot(FREE_BIN, i, true), LATER + i);
        }
        due("the first", x.lot(FREE_BIN, 0, false), 9);
        for (int i : new int[] {MIN, -1, 6, MAX}) {
            due("lot " + i, x.lot(FREE_BIN, i, true), BAD);
            due("lot " + i, x.lot(FREE_BIN, i, false), BAD);
        }
        for (int bin : new int[] {MIN, -1, NEW_BIN, 63, 64, MAX}) {
            due("bin " + bin, x.lot(bin, 0, true), BAD);
            due("bin " + bin, x.lot(bin, 0, false), BAD);
        }
        countTo(x, FREE_BIN, 0);
        due("none is left", x.lot(FREE_BIN, 0, false), BAD);
    }

    /** Promise 19: "BAD: no such item" */
    private static void stockOfNoItem() {
        for (int what = 0; what <= 2; what++) {
            for (int item : new int[] {MIN, -1, NO_ITEM, 31, 32, MAX}) {
                due("item " + item, stocked(NURSE).stock(item, what), BAD);
            }
        }
    }

    /** Promise 19: "or what", and each that is one. */
    private static void stockWhats() {
        DispenseCabinet x = with(PHARMACIST);
        x.item(31, false, 10000);
        fill(x, 0, 1, 31, 50);
        fill(x, 63, 2, 31, 51);
        fill(x, 62, 4, FREE, 51);
        x.giveBack(31, 8);
        due("all bins", x.stock(31, 0), 3);
        due("below par", x.stock(31, 1), 9997);
        due("given back", x.stock(31, 2), 8);
        x.tick(50);
        due("without the expired", x.stock(31, 0), 2);
        due("below par", x.stock(31, 1), 9998);
        for (int what : new int[] {MIN, -1, 3, MAX}) {
            due("what " + what, x.stock(31, what), BAD);
            due("both", x.stock(32, what), BAD);
        }
    }

    /** Promise 19: "what that is below its par, or 0" */
    private static void stockBelowPar() {
        for (int par : new int[] {0, 1, 8, 9, 10, 10000}) {
            DispenseCabinet x = with(PHARMACIST);
            x.item(5, false, par);
            due("of none", x.stock(5, 1), par);
            fill(x, 0, 9, 5, LATER);
            due("of 9", x.stock(5, 1), Math.max(0, par - 9));
            due("wanted", x.wanted(0), par > 9 ? 5 : BAD);
            due("alarm", x.alarms(), par > 9 ? 4 : 0);
        }
    }

    /** Promise 20: "Item i of those below their par, by numbers. BAD: there is none." */
    private static void wantedNumbers() {
        DispenseCabinet x = new DispenseCabinet();
        due("no items", x.wanted(0), BAD);
        for (int id = 31; id >= 0; id--) {
            x.item(id, false, 1);
        }
        for (int i = 0; i <= 31; i++) {
            due("wanted " + i, x.wanted(i), i);
        }
        for (int i : new int[] {MIN, -1, 32, MAX}) {
            due("wanted " + i, x.wanted(i), BAD);
        }
        x.user(0, 1, 0);
        x.login(0, 0);
        fill(x, 0, 1, 30, LATER);
        due("29", x.wanted(29), 29);
        due("not 30", x.wanted(30), 31);
        due("no more", x.wanted(31), BAD);
        due("none is below 0", stocked(NURSE).wanted(0), BAD);
    }

    /** Promise 22: "1 the lid is open for 40 seconds or more" */
    private static void alarmOfLid() {
        for (int kind = TAKE; kind <= WASTE; kind++) {
            DispenseCabinet x = begun(PHARMACIST, kind, target(kind, FREE));
            due("0 seconds", x.alarms(), 0);
            x.tick(39);
            due("39 seconds", x.alarms(), 0);
            x.tick(1);
            due("40 seconds", x.alarms(), 1);
            x.tick(1000);
            due("1040 seconds", x.alarms(), 1);
            x.count(9);
            due("counted", x.alarms(), 1);
            x.shut();
            due("shut", x.alarms(), 0);
            x.begin(FILL, FREE_BIN);
            due("the next", x.alarms(), 0);
        }
    }

    /** Promise 22: "2 somebody is locked" */
    private static void alarmOfLock() {
        for (int id : new int[] {0, 15}) {
            DispenseCabinet x = new DispenseCabinet();
            x.user(id, 2, 5);
            x.login(id, 0);
            x.login(id, 0);
            due("two wrong codes", x.alarms(), 0);
            x.login(id, 0);
            due("three", x.alarms(), 2);
            x.tick(299);
            due("299 seconds", x.alarms(), 2);
            x.tick(1);
            due("300 seconds", x.alarms(), 0);
        }
    }

    /** Promise 22: "4 an item is below its par" */
    private static void alarmOfPar() {
        for (int id : new int[] {0, 31}) {
            DispenseCabinet x = new DispenseCabinet();
            x.user(0, 1, 0);
            x.login(0, 0);
            due("no item", x.alarms(), 0);
            x.item(id, false, 2);
            due("none of 2", x.alarms(), 4);
            fill(x, 0, 1, id, LATER);
            due("1 of 2", x.alarms(), 4);
            fill(x, 63, 1, id, LATER);
            due("2 of 2", x.alarms(), 0);
        }
    }

    /** Promise 22: "8 a copy is lost" */
    private static void alarmOfCopy() {
        for (int copy = 0; copy < 2; copy++) {
            DispenseCabinet x = stocked(NURSE);
            due("both are whole", x.alarms(), 0);
            x.lose(copy);
            due("one is lost", x.alarms(), 8);
            x.repair();
            due("repaired", x.alarms(), 0);
            x.lose(copy);
            x.lose(1 - copy);
            due("both are lost", x.alarms(), 8);
        }
    }

    /** Promise 22: "16 a lot is expired" */
    private static void alarmOfExpiry() {
        for (int bin : new int[] {0, 63}) {
            DispenseCabinet x = with(PHARMACIST);
            fill(x, bin, 1, FREE, LATER);
            fill(x, bin, 1, FREE, 50);
            x.tick(49);
            due("a second before", x.alarms(), 0);
            x.tick(1);
            due("expired", x.alarms(), 16);
            countTo(x, bin, 1);
            due("gone", x.alarms(), 0);
        }
    }

    /** Promise 22: "Alarms as bits": each with each. */
    private static void alarmsTogether() {
        for (int bits = 0; bits < 32; bits++) {
            DispenseCabinet x = with(PHARMACIST);
            fill(x, 0, 1, FREE, (bits & 16) != 0 ? 40 : LATER);
            x.item(9, false, (bits & 4) != 0 ? 1 : 0);
            if ((bits & 2) != 0) {
                lock(x, AIDE);
            }
            if ((bits & 8) != 0) {
                x.lose(1);
            }
            if ((bits & 1) != 0) {
                x.begin(FILL, 1);
            }
            x.tick(40);
            due("alarms", x.alarms(), bits);
        }
    }

    /** Promise 23: each what that is one, "-1 for .. another what". */
    private static void toldWhats() {
        DispenseCabinet x = witnessed(PHARMACIST);
        x.tick(7);
        x.begin(WASTE, CONTROLLED_BIN);
        int[] due = {7, PHARMACIST, SECOND, WASTE, CONTROLLED_BIN, 1, 2};
        for (int what = 0; what <= 6; what++) {
            due("what " + what, x.told(what), due[what]);
        }
        x.count(9);
        due("counted", x.told(5), 0);
        due("entries", x.told(6), 3);
        for (int what : new int[] {MIN, -1, 7, MAX}) {
            due("what " + what, x.told(what), -1);
        }
    }

    /** Promise 23: "-1 for none": nobody, no witness, no step; but time and entries are 0. */
    private static void toldOfNone() {
        DispenseCabinet x = peopled();
        int[] due = {0, -1, -1, -1, -1, -1, 0};
        for (int what = 0; what <= 6; what++) {
            due("what " + what, x.told(what), due[what]);
        }
        DispenseCabinet y = begun(PHARMACIST, WASTE, CONTROLLED_BIN);
        y.shut();
        for (int what = 3; what <= 5; what++) {
            due("shut, what " + what, y.told(what), -1);
        }
        y.logout();
        due("nobody", y.told(1), -1);
        due("no witness", y.told(2), -1);
    }
}
