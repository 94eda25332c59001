/** Promises 24 to 27: entry, lose, repair, audit. */
public final class LedgerTest {
    private static final int MIN = Integer.MIN_VALUE;
    private static final int MAX = Integer.MAX_VALUE;
    private static final Check CHECK = new Check();

    public static void main(String[] args) {
        entries();
        entriesWrong();
        losesAndRepairs();
        losesBoth();
        refusedCallsWriteNothing();
        auditsAgain();
        CHECK.end();
    }

    private static void due(String call, long got, long want) {
        CHECK.due(call, got, want);
    }

    private static DispenseCabinet cabinet() {
        DispenseCabinet x = new DispenseCabinet();
        x.user(0, 0, 10);
        x.user(1, 1, 11);
        x.item(0, false, 0);
        x.item(1, true, 0);
        x.login(1, 11);
        x.witness(0, 10);
        return x;
    }

    private static void entryIs(DispenseCabinet x, int i, int... parts) {
        for (int what = 0; what < 6; what++) {
            due("entry " + i + " part " + what, x.entry(i, what), parts[what]);
        }
    }

    /** Entries of each kind; returns the cabinet with nine of them. */
    private static DispenseCabinet used() {
        DispenseCabinet x = cabinet();
        x.begin(1, 5);
        x.amount(20, 1, 900);
        x.shut();
        x.order(0, 1, 0, 900);
        x.order(1, 9, 0, 900);
        x.tick(3);
        x.begin(0, 1);
        x.count(18);
        x.tick(1);
        x.amount(4, 0, 0);
        x.shut();
        x.begin(3, 5);
        x.count(15);
        x.amount(2, 0, 0);
        x.shut();
        x.giveBack(1, 6);
        x.login(0, 10);
        x.witness(1, 11);
        x.begin(2, 5);
        x.tick(2);
        x.count(13);
        x.shut();
        x.reconcile();
        x.login(1, 11);
        x.begin(1, 6);
        x.amount(7, 0, 800);
        x.shut();
        return x;
    }

    private static void entries() {
        DispenseCabinet x = used();
        due("entries", x.told(6), 9);
        entryIs(x, 0, 1, 0, 1, 5, 20, -1);
        entryIs(x, 1, 3, 3, 1, 5, -2, 1);
        entryIs(x, 2, 2, 4, 1, 5, 4, 1);
        entryIs(x, 3, 3, 4, 1, 5, 1, -1);
        entryIs(x, 4, 4, 4, 1, 5, 2, -1);
        entryIs(x, 5, 5, 4, 1, -2, 6, -1);
        entryIs(x, 6, 3, 6, 0, 5, 0, -1);
        entryIs(x, 7, 6, 6, 0, -1, 0, -1);
        entryIs(x, 8, 1, 6, 1, 6, 7, -1);
        due("book 5", x.bin(5, 1), 13);
        due("audit", x.audit(), 0);
    }

    private static void entriesWrong() {
        DispenseCabinet x = used();
        due("entry 9", x.entry(9, 0), -1);
        due("entry -1", x.entry(-1, 0), -1);
        due("entry MIN", x.entry(MIN, 0), -1);
        due("entry MAX", x.entry(MAX, 0), -1);
        due("what 6", x.entry(0, 6), -1);
        due("what -1", x.entry(0, -1), -1);
        due("what MAX", x.entry(0, MAX), -1);
    }

    private static void losesAndRepairs() {
        for (int first = 0; first < 2; first++) {
            DispenseCabinet x = used();
            due("lose -1", x.lose(-1), -1);
            due("lose 2", x.lose(2), -1);
            due("none lost", x.repair(), 2);
            due("lose", x.lose(first), 1);
            due("lose again", x.lose(first), 1);
            due("read the other", x.entry(4, 4), 2);
            due("audit of the other", x.audit(), 0);
            due("written in the other", x.giveBack(0, 8), 8);
            due("read it", x.entry(9, 4), 8);
            due("repair", x.repair(), 2);
            due("lose the other", x.lose(1 - first), 1);
            due("read of the repaired", x.entry(9, 4), 8);
            due("first of the repaired", x.entry(0, 4), 20);
            due("audit of the repaired", x.audit(), 0);
            x.giveBack(0, 9);
            due("written in the repaired", x.entry(10, 4), 9);
            due("repair the other", x.repair(), 2);
            due("lose the first", x.lose(first), 1);
            due("read of the other", x.entry(10, 4), 9);
        }
    }

    private static void losesBoth() {
        DispenseCabinet x = used();
        x.lose(1);
        due("lose both", x.lose(0), 0);
        due("lose again", x.lose(1), 0);
        due("lose none", x.lose(MIN), -1);
        due("entry", x.entry(0, 0), -8);
        due("BAD before FULL", x.entry(9, 0), -1);
        due("BAD before FULL", x.entry(0, 6), -1);
        due("repair", x.repair(), -8);
        due("audit", x.audit(), -8);
        due("give back", x.giveBack(0, 1), 1);
        due("counts all the same", x.told(6), 10);
        due("there is an entry", x.entry(9, 0), -8);
        due("repair not yet", x.repair(), -8);
        for (int i = 10; i < 290; i++) {
            x.giveBack(0, 1);
        }
        due("full by entries that no copy has", x.giveBack(0, 1), -8);
    }

    private static void refusedCallsWriteNothing() {
        DispenseCabinet x = used();
        x.count(1);
        x.amount(1, 0, 0);
        x.giveBack(0, 0);
        x.begin(2, 0);
        x.begin(1, 5);
        x.amount(1, 0, 900);
        x.count(4);
        x.reconcile();
        x.giveBack(0, 1);
        x.shut();
        x.logout();
        x.reconcile();
        x.giveBack(0, 1);
        due("entries", x.told(6), 9);
        due("audit", x.audit(), 0);
    }

    private static void auditsAgain() {
        DispenseCabinet x = cabinet();
        for (int bin = 0; bin < 64; bin += 63) {
            x.begin(1, bin);
            x.amount(9, 0, 900);
            x.shut();
        }
        due("audit", x.audit(), 0);
        due("audit again", x.audit(), 0);
        x.begin(3, 0);
        x.amount(4, 0, 0);
        due("audit in a step", x.audit(), 0);
        x.shut();
        x.begin(2, 63);
        x.count(11);
        x.shut();
        due("audit at last", x.audit(), 0);
    }
}
