import java.lang.reflect.Field;

/**
 * Promise 27: no run of calls makes a book other than the ledger tells it, so this test alone reaches into the object
 * and changes books there; it knows the names bins and units.
 */
public final class AuditInsideTest extends Bounds {
    public static void main(String[] args) throws Exception {
        oneBin();
        allBins();
        moreAndLess();
        CHECK.end();
    }

    private static Object binOf(DispenseCabinet x, int bin) throws Exception {
        Field bins = DispenseCabinet.class.getDeclaredField("bins");
        bins.setAccessible(true);
        return ((Object[]) bins.get(x))[bin];
    }

    /** Adds to the first lot, without an entry. */
    private static void addUnseen(DispenseCabinet x, int bin, int units) throws Exception {
        Object inside = binOf(x, bin);
        Field lots = inside.getClass().getDeclaredField("units");
        lots.setAccessible(true);
        ((int[]) lots.get(inside))[0] += units;
    }

    private static DispenseCabinet filled() {
        DispenseCabinet x = with(PHARMACIST);
        for (int bin = 0; bin <= 63; bin++) {
            fill(x, bin, 2, FREE, LATER);
        }
        return x;
    }

    private static void oneBin() throws Exception {
        for (int bin : new int[] {0, 1, 63}) {
            DispenseCabinet x = filled();
            addUnseen(x, bin, 1);
            due("bin " + bin, x.audit(), 1);
            addUnseen(x, bin, -1);
            due("as before", x.audit(), 0);
        }
    }

    private static void allBins() throws Exception {
        DispenseCabinet x = filled();
        for (int bin = 0; bin <= 63; bin++) {
            due("so far", x.audit(), bin);
            addUnseen(x, bin, -1);
        }
        due("all", x.audit(), 64);
        x.lose(0);
        due("of the other copy", x.audit(), 64);
        x.lose(1);
        due("of none", x.audit(), FULL);
    }

    /** Books that are other by as much more as less are two that are other. */
    private static void moreAndLess() throws Exception {
        DispenseCabinet x = filled();
        addUnseen(x, 5, 1);
        addUnseen(x, 6, -1);
        due("two", x.audit(), 2);
    }
}
