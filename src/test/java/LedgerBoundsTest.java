/** The boundary cases of promises 24 to 27; above each test stands the sentence that it is for. */
public final class LedgerBoundsTest extends Bounds {
    public static void main(String[] args) {
        entryNumbers();
        entryWhats();
        entryOfFullLedger();
        entryOfOneCopy();
        entryOfLostCopies();
        entryOrderOfCodes();
        loseNumbers();
        loseAnswersWhole();
        entriesComeInWholeCopies();
        repairAnswersWhole();
        repairMakesOneOfTheOther();
        repairOfFullLedger();
        repairOfLostCopies();
        auditOfNothing();
        auditOfAllKinds();
        auditOfAllBins();
        auditOfFullLedger();
        auditOfOneCopy();
        auditOfLostCopies();
        CHECK.end();
    }

    private static DispenseCabinet lost(DispenseCabinet x) {
        due("one", x.lose(0), 1);
        due("both", x.lose(1), 0);
        return x;
    }

    /** Promise 24: "BAD: there is none" */
    private static void entryNumbers() {
        due("of an empty ledger", peopled().entry(0, 0), BAD);
        DispenseCabinet x = stocked(NURSE);
        due("the first", x.entry(0, 3), FREE_BIN);
        due("the last", x.entry(1, 3), CONTROLLED_BIN);
        for (int i : new int[] {MIN, -1, 2, 299, 300, MAX}) {
            for (int what = 0; what <= 5; what++) {
                due("entry " + i, x.entry(i, what), BAD);
            }
        }
    }

    /** Promise 24: "or no such what", and each that is one. */
    private static void entryWhats() {
        DispenseCabinet x = begun(NURSE, TAKE, FREE_ORDER);
        x.tick(9);
        x.amount(4, 0, 0);
        entryIs(x, 2, 2, 9, NURSE, FREE_BIN, 4, FREE_ORDER);
        for (int what : new int[] {MIN, -1, 6, MAX}) {
            due("what " + what, x.entry(2, what), BAD);
            due("both", x.entry(3, what), BAD);
        }
    }

    /** Promise 24, of the last of 300 entries. */
    private static void entryOfFullLedger() {
        DispenseCabinet x = writtenInStep(300, TAKE, FREE_ORDER);
        entryIs(x, 299, 3, 0, PHARMACIST, FREE_BIN, 0, FREE_ORDER);
        entryIs(x, 289, 3, 0, PHARMACIST, FREE_BIN, -8, FREE_ORDER);
        entryIs(x, 288, 5, 0, PHARMACIST, -1, 1, -1);
        due("none", x.entry(300, 0), BAD);
    }

    /** Promise 24: "FULL: both copies are lost", not one. */
    private static void entryOfOneCopy() {
        for (int copy = 0; copy < 2; copy++) {
            DispenseCabinet x = stocked(NURSE);
            x.lose(copy);
            entryIs(x, 0, 1, 0, PHARMACIST, FREE_BIN, 9, -1);
            due("none", x.entry(2, 0), BAD);
        }
    }

    /** Promise 24: "FULL: both copies are lost." */
    private static void entryOfLostCopies() {
        for (int what = 0; what <= 5; what++) {
            due("entry 0", lost(stocked(NURSE)).entry(0, what), FULL);
            due("entry 1", lost(stocked(NURSE)).entry(1, what), FULL);
        }
    }

    /** Promise 24, where both would come: BAD, FULL. */
    private static void entryOrderOfCodes() {
        due("of an empty ledger", lost(peopled()).entry(0, 0), BAD);
        due("number -1", lost(stocked(NURSE)).entry(-1, 0), BAD);
        due("number 2", lost(stocked(NURSE)).entry(2, 0), BAD);
        due("what -1", lost(stocked(NURSE)).entry(0, -1), BAD);
        due("what 6", lost(stocked(NURSE)).entry(0, 6), BAD);
    }

    /** Promise 25: "BAD: there is no such one." */
    private static void loseNumbers() {
        due("0", stocked(NURSE).lose(0), 1);
        due("1", stocked(NURSE).lose(1), 1);
        for (int copy : new int[] {MIN, -1, 2, MAX}) {
            refused("copy " + copy, BAD, () -> stocked(NURSE), x -> x.lose(copy));
            refused("copy " + copy, BAD, () -> lost(stocked(NURSE)), x -> x.lose(copy));
        }
    }

    /** Promise 25: "Copy 0 or 1 of the ledger is lost: how many are whole." */
    private static void loseAnswersWhole() {
        for (int first = 0; first < 2; first++) {
            DispenseCabinet x = stocked(NURSE);
            due("one", x.lose(first), 1);
            due("the same", x.lose(first), 1);
            due("the other", x.lose(1 - first), 0);
            due("the first again", x.lose(first), 0);
            due("the other again", x.lose(1 - first), 0);
        }
    }

    /** Promise 25: "(Entries that come are written in whole ones alone.)" */
    private static void entriesComeInWholeCopies() {
        for (int first = 0; first < 2; first++) {
            DispenseCabinet x = stocked(NURSE);
            x.giveBack(FREE, 3);
            x.lose(first);
            x.giveBack(FREE, 4);
            due("in the whole one", x.entry(3, 4), 4);
            due("of before", x.entry(2, 4), 3);
            x.lose(1 - first);
            due("in no other", x.entry(3, 4), FULL);
            due("made of none", x.repair(), FULL);
            due("counted all the same", x.told(6), 4);
        }
    }

    /** Promise 26: "A lost copy is made of the other one: how many are whole then." */
    private static void repairAnswersWhole() {
        due("none is lost", stocked(NURSE).repair(), 2);
        for (int copy = 0; copy < 2; copy++) {
            DispenseCabinet x = stocked(NURSE);
            x.lose(copy);
            due("one is lost", x.repair(), 2);
            due("none is lost then", x.repair(), 2);
            due("it can be lost again", x.lose(copy), 1);
        }
        DispenseCabinet empty = peopled();
        empty.lose(0);
        due("of an empty ledger", empty.repair(), 2);
    }

    /** Promise 26: "made of the other one", to the last entry that came meanwhile. */
    private static void repairMakesOneOfTheOther() {
        for (int first = 0; first < 2; first++) {
            DispenseCabinet x = stocked(NURSE);
            x.lose(first);
            x.giveBack(FREE, 4);
            x.repair();
            x.giveBack(FREE, 5);
            x.lose(1 - first);
            due("of before", x.entry(0, 4), 9);
            due("of meanwhile", x.entry(2, 4), 4);
            due("of after", x.entry(3, 4), 5);
            x.repair();
            x.lose(first);
            due("back again", x.entry(2, 4), 4);
        }
    }

    /** Promise 26, of 300 entries, the last of which came while one was lost. */
    private static void repairOfFullLedger() {
        for (int first = 0; first < 2; first++) {
            DispenseCabinet x = writtenInStep(299, TAKE, FREE_ORDER);
            x.lose(first);
            due("the last", x.count(7), 6);
            due("repair", x.repair(), 2);
            x.lose(1 - first);
            due("the first", x.entry(0, 4), 9);
            due("the last", x.entry(299, 4), 6);
            due("none behind it", x.entry(300, 4), BAD);
        }
    }

    /** Promise 26: "FULL: both are lost." */
    private static void repairOfLostCopies() {
        refused("both", FULL, () -> lost(stocked(NURSE)), x -> x.repair());
        refused("of an empty ledger", FULL, () -> lost(peopled()), x -> x.repair());
    }

    /** Promise 27, of an empty ledger, and of one whose entries are of no bin. */
    private static void auditOfNothing() {
        due("empty", peopled().audit(), 0);
        DispenseCabinet x = with(NURSE);
        witness(x, AIDE);
        x.giveBack(FREE, 1000);
        x.giveBack(CONTROLLED, 1000);
        x.reconcile();
        due("no bins", x.audit(), 0);
    }

    /** Promise 27: "For how many bins the ledger, read from its beginning, tells another book": for none. */
    private static void auditOfAllKinds() {
        DispenseCabinet x = witnessed(PHARMACIST);
        x.begin(TAKE, CONTROLLED_ORDER);
        x.count(7);
        due("counted", x.audit(), 0);
        x.amount(3, 0, 0);
        due("taken", x.audit(), 0);
        x.shut();
        x.begin(WASTE, FREE_BIN);
        x.count(12);
        x.amount(11, 0, 0);
        due("wasted", x.audit(), 0);
        x.shut();
        x.giveBack(CONTROLLED, 5);
        x.reconcile();
        fill(x, FREE_BIN, 1000, FREE, 50);
        due("came in", x.audit(), 0);
        x.tick(50);
        due("expired", x.audit(), 0);
        due("again", x.audit(), 0);
    }

    /** Promise 27, of the first bin and the last and all between. */
    private static void auditOfAllBins() {
        DispenseCabinet x = with(PHARMACIST);
        for (int bin = 0; bin <= 63; bin++) {
            fill(x, bin, 1 + bin, FREE, LATER);
        }
        due("all", x.audit(), 0);
        countTo(x, 0, 0);
        countTo(x, 63, 10000);
        due("first and last", x.audit(), 0);
    }

    /** Promise 27, of 300 entries. */
    private static void auditOfFullLedger() {
        for (int copy = 0; copy < 2; copy++) {
            DispenseCabinet x = writtenInStep(300, TAKE, FREE_ORDER);
            due("both copies", x.audit(), 0);
            x.lose(copy);
            due("one copy", x.audit(), 0);
        }
    }

    /** Promise 27, read of the copy that is whole. */
    private static void auditOfOneCopy() {
        for (int first = 0; first < 2; first++) {
            DispenseCabinet x = stocked(PHARMACIST);
            x.lose(first);
            due("one", x.audit(), 0);
            fill(x, NEW_BIN, 1, FREE, LATER);
            due("came in meanwhile", x.audit(), 0);
            x.repair();
            x.lose(1 - first);
            due("the repaired", x.audit(), 0);
        }
    }

    /** Promise 27: "FULL: both copies are lost." */
    private static void auditOfLostCopies() {
        refused("both", FULL, () -> lost(stocked(NURSE)), x -> x.audit());
        refused("of an empty ledger", FULL, () -> lost(peopled()), x -> x.audit());
    }
}
