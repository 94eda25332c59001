import java.util.ArrayList;
import java.util.List;
import java.util.function.Supplier;
import java.util.function.ToIntFunction;

/** What the tests of boundary cases share: names for the document's numbers, cabinets to start from, refusals. */
abstract class Bounds {
    static final int MIN = Integer.MIN_VALUE, MAX = Integer.MAX_VALUE;
    static final int BAD = -1, NOBODY = -2, ROLE = -3, STEP = -4, WITNESS = -5;
    static final int ORDER = -6, SHORT = -7, FULL = -8, WRONG = -9, LOCKED = -10;
    static final int TAKE = 0, FILL = 1, COUNT = 2, WASTE = 3;

    /** The users of a peopled cabinet by their roles; two are pharmacists, and NO_USER is none of them. */
    static final int NURSE = 0, PHARMACIST = 1, AIDE = 2, SECOND = 3, NO_USER = 4, NOBODY_IN = -1;
    static final int FREE = 0, CONTROLLED = 1, NO_ITEM = 2;

    /** What a stocked cabinet has: 9 units in each of two bins, orders of 5 units, and a cancelled one. */
    static final int FREE_BIN = 5, CONTROLLED_BIN = 6, NEW_BIN = 7;
    static final int FREE_ORDER = 0, CONTROLLED_ORDER = 1, CANCELLED_ORDER = 2, NO_ORDER = 3;
    static final int LATER = 9000;

    static final Check CHECK = new Check();

    static void due(String call, long got, long want) {
        CHECK.due(call, got, want);
    }

    static int code(int user) {
        return 10 + user;
    }

    static DispenseCabinet peopled() {
        DispenseCabinet x = new DispenseCabinet();
        x.user(NURSE, 0, code(NURSE));
        x.user(PHARMACIST, 1, code(PHARMACIST));
        x.user(AIDE, 2, code(AIDE));
        x.user(SECOND, 1, code(SECOND));
        x.item(FREE, false, 0);
        x.item(CONTROLLED, true, 0);
        return x;
    }

    /** A peopled cabinet with that user in. */
    static DispenseCabinet with(int user) {
        DispenseCabinet x = peopled();
        enter(x, user);
        return x;
    }

    static DispenseCabinet stocked(int user) {
        DispenseCabinet x = with(PHARMACIST);
        fill(x, FREE_BIN, 9, FREE, LATER);
        fill(x, CONTROLLED_BIN, 9, CONTROLLED, LATER);
        x.order(FREE, 5, 0, LATER);
        x.order(CONTROLLED, 5, 0, LATER);
        x.order(CONTROLLED, 5, 0, LATER);
        x.cancel(CANCELLED_ORDER);
        enter(x, user);
        return x;
    }

    /** A stocked cabinet with so many entries. */
    static DispenseCabinet written(int entries, int user) {
        DispenseCabinet x = stocked(PHARMACIST);
        giveBackUntil(x, entries);
        enter(x, user);
        return x;
    }

    static DispenseCabinet writtenAndWitnessed(int entries, int user) {
        DispenseCabinet x = written(entries, user);
        witness(x, SECOND);
        return x;
    }

    /** A stocked cabinet with a witness, too. */
    static DispenseCabinet witnessed(int user) {
        DispenseCabinet x = stocked(user);
        witness(x, SECOND);
        return x;
    }

    /** What a step of that kind is begun with, for one of the two items of a stocked cabinet. */
    static int target(int kind, int item) {
        return kind == TAKE ? item : FREE_BIN + item;
    }

    /** A witnessed cabinet with a step open, of one of the stocked bins or for one of the orders. */
    static DispenseCabinet begun(int user, int kind, int target) {
        DispenseCabinet x = witnessed(user);
        CHECK.holds("begin", x.begin(kind, target) >= 0);
        return x;
    }

    /** So many entries, from 290 on: a step of a bin that has one unit is open, and must be counted. */
    static DispenseCabinet writtenInStep(int entries, int kind, int target) {
        DispenseCabinet x = writtenAndWitnessed(289, PHARMACIST);
        CHECK.holds("begin", x.begin(kind, target) >= 0);
        for (int i = 289; i < entries; i++) {
            x.count(1);
            due("short", x.amount(2, 0, 0), SHORT);
        }
        due("entries", x.told(6), entries);
        return x;
    }

    static void enter(DispenseCabinet x, int user) {
        if (user == NOBODY_IN) {
            x.logout();
        } else {
            due("login of " + user, x.login(user, code(user)), 0);
        }
    }

    static void witness(DispenseCabinet x, int user) {
        due("witness " + user, x.witness(user, code(user)), x.told(0) + 120);
    }

    static void fill(DispenseCabinet x, int bin, int units, int item, int expiry) {
        due("FILL begins", x.begin(FILL, bin), bin);
        CHECK.holds("lot comes in", x.amount(units, item, expiry) >= units);
        CHECK.holds("FILL ends", x.shut() >= 0);
    }

    static void countTo(DispenseCabinet x, int bin, int units) {
        due("COUNT begins", x.begin(COUNT, bin), bin);
        x.count(units);
        due("book", x.bin(bin, 1), units);
        CHECK.holds("COUNT ends", x.shut() >= 0);
    }

    static void giveBackUntil(DispenseCabinet x, int entries) {
        int missing = entries - x.told(6);
        for (int i = 0; i < missing; i++) {
            x.giveBack(FREE, 1);
        }
        due("entries", x.told(6), entries);
    }

    static void lock(DispenseCabinet x, int user) {
        for (int i = 0; i < 3; i++) {
            due("wrong code " + i, x.login(user, 0), WRONG);
        }
    }

    static void pass(DispenseCabinet x, int seconds) {
        for (int rest = seconds; rest > 0; rest -= 1000) {
            x.tick(Math.min(rest, 1000));
        }
    }

    static void lotsAre(DispenseCabinet x, int bin, int... expiryAndUnits) {
        due("lots of bin " + bin, x.bin(bin, 4), expiryAndUnits.length / 2);
        for (int i = 0; i < expiryAndUnits.length / 2; i++) {
            due("expiry of lot " + i, x.lot(bin, i, true), expiryAndUnits[2 * i]);
            due("units of lot " + i, x.lot(bin, i, false), expiryAndUnits[2 * i + 1]);
        }
    }

    static void entryIs(DispenseCabinet x, int i, int... parts) {
        for (int what = 0; what < 6; what++) {
            due("entry " + i + " part " + what, x.entry(i, what), parts[what]);
        }
    }

    /** The call answers the code, and the cabinet is then as one that did not get the call. */
    static void refused(String name, int code, Supplier<DispenseCabinet> made, ToIntFunction<DispenseCabinet> call) {
        DispenseCabinet asked = made.get();
        DispenseCabinet spared = made.get();
        // Some time must lie between, or a call that wrongly keeps who is in would not be seen.
        asked.tick(20);
        spared.tick(20);
        due(name, call.applyAsInt(asked), code);
        List<Integer> got = seen(asked);
        List<Integer> want = seen(spared);
        for (int i = 0; i < want.size() && i < got.size(); i++) {
            due(name + " changes nothing: reading " + i, got.get(i), want.get(i));
        }
        due(name + " changes nothing: readings", got.size(), want.size());
    }

    /** What can be read of a cabinet now and, as time passes, of who is in, the witness and the alarms. */
    private static List<Integer> seen(DispenseCabinet x) {
        List<Integer> all = new ArrayList<>();
        for (int what = 0; what <= 6; what++) {
            all.add(x.told(what));
        }
        for (int i = 0; i < 3; i++) {
            all.add(x.mismatch(i));
            seeBin(x, FREE_BIN + i, all);
            seeThree(x, i, all);
        }
        for (int what = 0; what < 6; what++) {
            all.add(x.entry(all.get(6) - 1, what));
        }
        for (int i = 0; i < 18; i++) {
            x.tick(20);
            all.add(x.told(1));
            all.add(x.told(2));
            all.add(x.alarms());
        }
        return all;
    }

    private static void seeBin(DispenseCabinet x, int bin, List<Integer> all) {
        for (int what = 0; what <= 5; what++) {
            all.add(x.bin(bin, what));
        }
        int lots = x.bin(bin, 4);
        for (int i = 0; i < lots; i++) {
            all.add(x.lot(bin, i, true));
            all.add(x.lot(bin, i, false));
        }
    }

    private static void seeThree(DispenseCabinet x, int number, List<Integer> all) {
        for (int what = 0; what < 3; what++) {
            all.add(x.stock(number, what));
            all.add(x.orderTold(number, what));
        }
    }
}
