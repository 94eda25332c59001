/** A cabinet that gives out what is ordered, and keeps the book of it; README.md says how to use it. */
public final class DispenseCabinet {
    public static final int BAD = -1, NOBODY = -2, ROLE = -3, STEP = -4, WITNESS = -5, ORDER = -6, SHORT = -7, FULL = -8, WRONG = -9, LOCKED = -10;

    private static final int NONE = -1;
    private static final int DONE = 0;

    private static final int USERS = 16, ITEMS = 32, BINS = 64, LOTS = 6, ORDERS = 60;
    private static final int ENTRIES = 300;
    /** From here on nothing new is begun, so that an open step still finds room for its entries. */
    private static final int ENTRIES_TO_BEGIN = 290;

    private static final int MOST_PAR = 10000, MOST_COUNTED = 10000, MOST_UNITS = 1000;
    private static final int MOST_GAP = 100000, MOST_TICK = 1000;

    private static final int NURSE = 0, PHARMACIST = 1, AIDE = 2;
    private static final int TAKE = 0, FILL = 1, COUNT = 2, WASTE = 3;
    private static final int CAME_IN = 1, TAKEN = 2, COUNTED = 3, WASTED = 4, GIVEN_BACK = 5, RECONCILED = 6;

    private static final int WRONG_TO_LOCK = 3, LOCK_SECONDS = 300;
    private static final int IDLE_SECONDS = 120, WITNESS_SECONDS = 120, LID_SECONDS = 40;

    private static final int LID_ALARM = 1, LOCK_ALARM = 2, PAR_ALARM = 4, COPY_ALARM = 8, EXPIRY_ALARM = 16;

    private final User[] users = new User[USERS];
    private final Item[] items = new Item[ITEMS];
    private final Bin[] bins = new Bin[BINS];
    private final Order[] orders = new Order[ORDERS];
    private final Step step = new Step();
    private final Ledger ledger = new Ledger();
    private final int[] mismatches = new int[BINS];
    /** Used again by each audit, for no call may make rows of its own. */
    private final int[] auditedBooks = new int[BINS];

    private int time = 0;
    private int userIn = NONE;
    private int acceptedAt = 0;
    private int witnessId = NONE;
    private int witnessUntil = 0;
    private int orderCount = 0;
    private int mismatchCount = 0;

    public DispenseCabinet() {
        for (int b = 0; b < BINS; b++) {
            bins[b] = new Bin();
        }
    }

    public int user(int id, int role, int code) {
        if (id < 0 || id >= USERS || role < NURSE || role > AIDE || users[id] != null) {
            return BAD;
        }
        users[id] = new User(role, code);
        return DONE;
    }

    public int item(int id, boolean controlled, int par) {
        if (id < 0 || id >= ITEMS || par < 0 || par > MOST_PAR || items[id] != null) {
            return BAD;
        }
        items[id] = new Item(controlled, par);
        return DONE;
    }

    public int login(int id, int code) {
        if (!isUser(id)) {
            return BAD;
        }
        if (step.isOpen()) {
            return STEP;
        }
        int refusal = tryCode(users[id], code);
        if (refusal != DONE) {
            return refusal;
        }
        sendOut();
        userIn = id;
        accept();
        return DONE;
    }

    public int logout() {
        if (userIn == NONE) {
            return NOBODY;
        }
        if (step.isOpen()) {
            return STEP;
        }
        int gone = userIn;
        sendOut();
        return gone;
    }

    public int witness(int id, int code) {
        if (!isUser(id) || id == userIn) {
            return BAD;
        }
        if (userIn == NONE) {
            return NOBODY;
        }
        int refusal = tryCode(users[id], code);
        if (refusal != DONE) {
            return refusal;
        }
        witnessId = id;
        witnessUntil = time + WITNESS_SECONDS;
        accept();
        return witnessUntil;
    }

    public int tick(int seconds) {
        if (seconds < 1 || seconds > MOST_TICK) {
            return BAD;
        }
        time += seconds;
        if (time >= witnessUntil) {
            witnessId = NONE;
        }
        if (!step.isOpen() && time - acceptedAt >= IDLE_SECONDS) {
            sendOut();
        }
        return time;
    }

    public int order(int item, int units, int gap, int end) {
        if (!isItem(item) || units < 1 || units > MOST_UNITS || gap < 0 || gap > MOST_GAP || end <= time) {
            return BAD;
        }
        if (userIn == NONE) {
            return NOBODY;
        }
        if (!isPharmacistIn()) {
            return ROLE;
        }
        if (orderCount >= ORDERS) {
            return FULL;
        }
        int number = orderCount;
        orders[number] = new Order(item, units, gap, end);
        orderCount++;
        accept();
        return number;
    }

    public int cancel(int order) {
        if (!isOrder(order)) {
            return BAD;
        }
        if (userIn == NONE) {
            return NOBODY;
        }
        if (!isPharmacistIn()) {
            return ROLE;
        }
        if (step.order == order) {
            return STEP;
        }
        Order cancelled = orders[order];
        if (!cancelled.isOpen(time)) {
            return ORDER;
        }
        cancelled.cancelled = true;
        accept();
        return cancelled.left;
    }

    public int begin(int kind, int target) {
        if (!isTarget(kind, target)) {
            return BAD;
        }
        if (userIn == NONE) {
            return NOBODY;
        }
        if (kind == FILL ? !isPharmacistIn() : !isHandlerIn()) {
            return ROLE;
        }
        if (step.isOpen()) {
            return STEP;
        }
        if (wantsWitness(kind, target) && witnessId == NONE) {
            return WITNESS;
        }
        if (kind == TAKE && !orders[target].mayTake(time)) {
            return ORDER;
        }
        int bin = kind == TAKE ? binToTakeFrom(orders[target].item) : target;
        if (bin == NONE) {
            return SHORT;
        }
        if (ledger.size >= ENTRIES_TO_BEGIN || kind == FILL && bins[bin].lots >= LOTS) {
            return FULL;
        }
        step.open(kind, bin, kind == TAKE ? target : NONE, time);
        step.mustCount = kind == COUNT || kind != FILL && isControlled(bins[bin].item);
        accept();
        return bin;
    }

    public int count(int units) {
        if (units < 0 || units > MOST_COUNTED) {
            return BAD;
        }
        if (userIn == NONE) {
            return NOBODY;
        }
        if (!step.takesCount()) {
            return STEP;
        }
        if (ledger.size >= ENTRIES) {
            return FULL;
        }
        Bin bin = bins[step.bin];
        bin.correctTo(units, time);
        step.counted = true;
        step.mustCount = false;
        ledger.write(COUNTED, time, userIn, step.bin, bin.doubt, step.order);
        accept();
        return bin.doubt;
    }

    public int amount(int units, int item, int expiry) {
        if (!isAmount(units, item, expiry)) {
            return BAD;
        }
        if (userIn == NONE) {
            return NOBODY;
        }
        if (!step.takesAmount()) {
            return STEP;
        }
        if (step.kind == TAKE && units > orders[step.order].left) {
            return ORDER;
        }
        Bin bin = bins[step.bin];
        if (step.kind == TAKE && units > bin.given(time) || step.kind == WASTE && units > bin.book()) {
            step.mustCount = true;
            return SHORT;
        }
        if (ledger.size >= ENTRIES) {
            return FULL;
        }
        if (step.kind == FILL) {
            letIn(bin, units, item, expiry);
        } else if (step.kind == TAKE) {
            takeOut(bin, units);
        } else {
            wasteFrom(bin, units);
        }
        step.amountTold = true;
        accept();
        return bin.book();
    }

    public int shut() {
        if (!step.isOpen() || step.kind == COUNT && !step.counted) {
            return STEP;
        }
        int seconds = time - step.since;
        step.close();
        accept();
        return seconds;
    }

    public int giveBack(int item, int units) {
        if (!isItem(item) || units < 1 || units > MOST_UNITS) {
            return BAD;
        }
        int refusal = refusalWithoutStep(isControlled(item));
        if (refusal != DONE) {
            return refusal;
        }
        items[item].givenBack += units;
        ledger.write(GIVEN_BACK, time, userIn, -1 - item, units, NONE);
        accept();
        return items[item].givenBack;
    }

    public int reconcile() {
        int refusal = refusalWithoutStep(true);
        if (refusal != DONE) {
            return refusal;
        }
        mismatchCount = 0;
        for (int b = 0; b < BINS; b++) {
            if (isMismatch(bins[b])) {
                mismatches[mismatchCount] = b;
                mismatchCount++;
            }
            bins[b].counted = false;
        }
        ledger.write(RECONCILED, time, userIn, NONE, mismatchCount, NONE);
        accept();
        return mismatchCount;
    }

    public int mismatch(int i) {
        return i >= 0 && i < mismatchCount ? mismatches[i] : BAD;
    }

    public int bin(int bin, int what) {
        if (!isBin(bin)) {
            return BAD;
        }
        Bin asked = bins[bin];
        switch (what) {
            case 0: return asked.item;
            case 1: return asked.book();
            case 2: return asked.given(time);
            case 3: return asked.doubt;
            case 4: return asked.lots;
            case 5: return step.bin == bin ? 1 : 0;
            default: return BAD;
        }
    }

    public int lot(int bin, int i, boolean expiry) {
        if (!isBin(bin) || i < 0 || i >= bins[bin].lots) {
            return BAD;
        }
        return expiry ? bins[bin].expiries[i] : bins[bin].units[i];
    }

    public int stock(int item, int what) {
        if (!isItem(item)) {
            return BAD;
        }
        switch (what) {
            case 0: return givenOf(item);
            case 1: return belowPar(item);
            case 2: return items[item].givenBack;
            default: return BAD;
        }
    }

    public int wanted(int i) {
        int before = 0;
        for (int item = 0; item < ITEMS; item++) {
            if (isItem(item) && belowPar(item) > 0) {
                if (before == i) {
                    return item;
                }
                before++;
            }
        }
        return BAD;
    }

    public int orderTold(int order, int what) {
        if (!isOrder(order)) {
            return BAD;
        }
        switch (what) {
            case 0: return orders[order].item;
            case 1: return orders[order].left;
            case 2: return orders[order].isOpen(time) ? 1 : 0;
            default: return BAD;
        }
    }

    public int alarms() {
        int bits = 0;
        if (step.isOpen() && time - step.since >= LID_SECONDS) {
            bits |= LID_ALARM;
        }
        if (isAnyLocked()) {
            bits |= LOCK_ALARM;
        }
        if (wanted(0) != BAD) {
            bits |= PAR_ALARM;
        }
        if (ledger.wholeCopies() < Ledger.COPIES) {
            bits |= COPY_ALARM;
        }
        if (isAnyLotExpired()) {
            bits |= EXPIRY_ALARM;
        }
        return bits;
    }

    public int told(int what) {
        switch (what) {
            case 0: return time;
            case 1: return userIn;
            case 2: return witnessId;
            case 3: return step.kind;
            case 4: return step.bin;
            case 5: return !step.isOpen() ? NONE : step.mustCount ? 1 : 0;
            case 6: return ledger.size;
            default: return NONE;
        }
    }

    public int entry(int i, int what) {
        if (i < 0 || i >= ledger.size || what < 0 || what >= Ledger.PARTS) {
            return BAD;
        }
        if (ledger.wholeCopies() == 0) {
            return FULL;
        }
        return ledger.read(i, what);
    }

    public int lose(int copy) {
        if (copy < 0 || copy >= Ledger.COPIES) {
            return BAD;
        }
        ledger.lost[copy] = true;
        return ledger.wholeCopies();
    }

    public int repair() {
        if (ledger.wholeCopies() == 0) {
            return FULL;
        }
        ledger.makeWhole();
        return ledger.wholeCopies();
    }

    public int audit() {
        if (ledger.wholeCopies() == 0) {
            return FULL;
        }
        ledger.readBooks(auditedBooks);
        int others = 0;
        for (int b = 0; b < BINS; b++) {
            if (auditedBooks[b] != bins[b].book()) {
                others++;
            }
        }
        return others;
    }

    private boolean isUser(int id) {
        return id >= 0 && id < USERS && users[id] != null;
    }

    private boolean isItem(int id) {
        return id >= 0 && id < ITEMS && items[id] != null;
    }

    private boolean isBin(int number) {
        return number >= 0 && number < BINS;
    }

    private boolean isOrder(int number) {
        return number >= 0 && number < orderCount;
    }

    private boolean isControlled(int item) {
        return isItem(item) && items[item].controlled;
    }

    private boolean isPharmacistIn() {
        return isUser(userIn) && users[userIn].role == PHARMACIST;
    }

    private boolean isHandlerIn() {
        return isPharmacistIn() || isUser(userIn) && users[userIn].role == NURSE;
    }

    /** DONE for the right code; wrong ones are kept in mind, but none while the user is locked. */
    private int tryCode(User user, int code) {
        if (user.isLocked(time)) {
            return LOCKED;
        }
        if (code == user.code) {
            user.wrongCodes = 0;
            return DONE;
        }
        user.wrongCodes++;
        if (user.wrongCodes >= WRONG_TO_LOCK) {
            user.wrongCodes = 0;
            user.lockedUntil = time + LOCK_SECONDS;
        }
        return WRONG;
    }

    /** Starts the time anew after which who is in goes out. */
    private void accept() {
        acceptedAt = time;
    }

    private void sendOut() {
        userIn = NONE;
        witnessId = NONE;
    }

    private boolean isTarget(int kind, int target) {
        switch (kind) {
            case TAKE: return isOrder(target);
            case FILL: return isBin(target);
            case COUNT:
            case WASTE: return isBin(target) && bins[target].item != NONE;
            default: return false;
        }
    }

    private boolean wantsWitness(int kind, int target) {
        return kind == WASTE || kind == TAKE && isControlled(orders[target].item);
    }

    private int binToTakeFrom(int item) {
        int best = NONE;
        int bestExpiry = 0;
        for (int b = 0; b < BINS; b++) {
            int first = bins[b].firstGiven(time);
            if (bins[b].item == item && first < bins[b].lots) {
                int expiry = bins[b].expiries[first];
                if (best == NONE || expiry < bestExpiry) {
                    best = b;
                    bestExpiry = expiry;
                }
            }
        }
        return best;
    }

    private boolean isAmount(int units, int item, int expiry) {
        if (units < 0 || units > MOST_UNITS) {
            return false;
        }
        return step.kind != FILL || units > 0 && expiry > time && isItem(item) && bins[step.bin].mayHold(item);
    }

    private void letIn(Bin bin, int units, int item, int expiry) {
        bin.item = item;
        bin.addLot(units, expiry);
        ledger.write(CAME_IN, time, userIn, step.bin, units, NONE);
    }

    private void takeOut(Bin bin, int units) {
        bin.remove(units, bin.firstGiven(time));
        orders[step.order].take(units, time);
        ledger.write(TAKEN, time, userIn, step.bin, units, step.order);
    }

    private void wasteFrom(Bin bin, int units) {
        bin.remove(units, 0);
        ledger.write(WASTED, time, userIn, step.bin, units, NONE);
    }

    /** Why a call of its own, outside of any step, that writes an entry is refused; DONE if it is not. */
    private int refusalWithoutStep(boolean withWitness) {
        if (userIn == NONE) {
            return NOBODY;
        }
        if (!isHandlerIn()) {
            return ROLE;
        }
        if (step.isOpen()) {
            return STEP;
        }
        if (withWitness && witnessId == NONE) {
            return WITNESS;
        }
        return ledger.size >= ENTRIES_TO_BEGIN ? FULL : DONE;
    }

    private boolean isMismatch(Bin bin) {
        return bin.doubt != 0 || isControlled(bin.item) && !bin.counted;
    }

    private int givenOf(int item) {
        int sum = 0;
        for (int b = 0; b < BINS; b++) {
            if (bins[b].item == item) {
                sum += bins[b].given(time);
            }
        }
        return sum;
    }

    private int belowPar(int item) {
        return Math.max(0, items[item].par - givenOf(item));
    }

    private boolean isAnyLocked() {
        for (int id = 0; id < USERS; id++) {
            if (isUser(id) && users[id].isLocked(time)) {
                return true;
            }
        }
        return false;
    }

    private boolean isAnyLotExpired() {
        for (int b = 0; b < BINS; b++) {
            if (bins[b].firstGiven(time) > 0) {
                return true;
            }
        }
        return false;
    }

    private static final class User {
        final int role;
        final int code;
        int wrongCodes = 0;
        int lockedUntil = 0;

        User(int role, int code) {
            this.role = role;
            this.code = code;
        }

        boolean isLocked(int now) {
            return now < lockedUntil;
        }
    }

    private static final class Item {
        final boolean controlled;
        final int par;
        int givenBack = 0;

        Item(boolean controlled, int par) {
            this.controlled = controlled;
            this.par = par;
        }
    }

    private static final class Order {
        final int item;
        final int gap;
        final int end;
        int left;
        boolean cancelled = false;
        boolean taken = false;
        int takenAt = 0;

        Order(int item, int units, int gap, int end) {
            this.item = item;
            this.left = units;
            this.gap = gap;
            this.end = end;
        }

        boolean isOpen(int now) {
            return now < end && left > 0 && !cancelled;
        }

        boolean mayTake(int now) {
            return isOpen(now) && (!taken || now - takenAt >= gap);
        }

        /** Nothing taken is no taking: the gap does not start anew. */
        void take(int units, int now) {
            left -= units;
            if (units > 0) {
                taken = true;
                takenAt = now;
            }
        }
    }

    /** The lots stand in order of expiry, so those that are expired stand before all that can be given. */
    private static final class Bin {
        final int[] expiries = new int[LOTS];
        final int[] units = new int[LOTS];
        int item = NONE;
        int lots = 0;
        int doubt = 0;
        boolean counted = false;

        boolean mayHold(int other) {
            return item == NONE || item == other;
        }

        int book() {
            return sumFrom(0);
        }

        int given(int now) {
            return sumFrom(firstGiven(now));
        }

        /** The first lot that can be given; the number of lots, if none can. */
        int firstGiven(int now) {
            int first = 0;
            while (first < lots && expiries[first] <= now) {
                first++;
            }
            return first;
        }

        /** Behind those of the same expiry, for they came earlier. */
        void addLot(int amount, int expiry) {
            if (lots >= LOTS) {
                return;
            }
            int place = lots;
            while (place > 0 && expiries[place - 1] > expiry) {
                expiries[place] = expiries[place - 1];
                units[place] = units[place - 1];
                place--;
            }
            expiries[place] = expiry;
            units[place] = amount;
            lots++;
        }

        void remove(int amount, int first) {
            int rest = amount;
            for (int i = first; i < lots; i++) {
                int part = Math.min(rest, units[i]);
                units[i] -= part;
                rest -= part;
            }
            dropEmptyLots();
        }

        void correctTo(int found, int now) {
            doubt = found - book();
            counted = true;
            if (doubt < 0) {
                remove(-doubt, 0);
            } else if (doubt > 0 && lots == 0) {
                addLot(doubt, now);
            } else if (doubt > 0) {
                units[lots - 1] += doubt;
            }
        }

        private int sumFrom(int first) {
            int sum = 0;
            for (int i = first; i < lots; i++) {
                sum += units[i];
            }
            return sum;
        }

        private void dropEmptyLots() {
            int kept = 0;
            for (int i = 0; i < lots; i++) {
                if (units[i] > 0) {
                    expiries[kept] = expiries[i];
                    units[kept] = units[i];
                    kept++;
                }
            }
            lots = kept;
        }
    }

    /** The one step that may be open; its kind, bin and order are NONE while there is none. */
    private static final class Step {
        int kind = NONE;
        int bin = NONE;
        int order = NONE;
        int since = 0;
        boolean mustCount = false;
        boolean counted = false;
        boolean amountTold = false;

        boolean isOpen() {
            return kind != NONE;
        }

        void open(int newKind, int newBin, int newOrder, int now) {
            kind = newKind;
            bin = newBin;
            order = newOrder;
            since = now;
            counted = false;
            amountTold = false;
        }

        void close() {
            kind = NONE;
            bin = NONE;
            order = NONE;
        }

        boolean takesCount() {
            return isOpen() && kind != FILL && !amountTold && (mustCount || !counted);
        }

        boolean takesAmount() {
            return isOpen() && kind != COUNT && !amountTold && !mustCount;
        }
    }

    /** A copy that is whole has every entry; one that is lost is not read or written until it is made anew. */
    private static final class Ledger {
        static final int COPIES = 2;
        static final int PARTS = 6;
        private static final int KIND = 0, BIN = 3, UNITS = 4;

        final boolean[] lost = new boolean[COPIES];
        int size = 0;
        private final int[][] copies = new int[COPIES][ENTRIES * PARTS];

        int wholeCopies() {
            return (lost[0] ? 0 : 1) + (lost[1] ? 0 : 1);
        }

        void write(int kind, int now, int user, int bin, int units, int order) {
            if (size >= ENTRIES) {
                return;
            }
            for (int c = 0; c < COPIES; c++) {
                if (!lost[c]) {
                    int[] copy = copies[c];
                    int at = size * PARTS;
                    copy[at] = kind;
                    copy[at + 1] = now;
                    copy[at + 2] = user;
                    copy[at + 3] = bin;
                    copy[at + 4] = units;
                    copy[at + 5] = order;
                }
            }
            size++;
        }

        int read(int i, int part) {
            return copies[lost[0] ? 1 : 0][i * PARTS + part];
        }

        void makeWhole() {
            for (int c = 0; c < COPIES; c++) {
                if (lost[c]) {
                    System.arraycopy(copies[1 - c], 0, copies[c], 0, size * PARTS);
                    lost[c] = false;
                }
            }
        }

        /** The books of all bins as the entries tell them, into the row of the caller. */
        void readBooks(int[] books) {
            for (int b = 0; b < books.length; b++) {
                books[b] = 0;
            }
            for (int i = 0; i < size; i++) {
                int bin = read(i, BIN);
                if (bin >= 0 && bin < books.length) {
                    books[bin] += change(read(i, KIND), read(i, UNITS));
                }
            }
        }

        private static int change(int kind, int units) {
            return kind == TAKEN || kind == WASTED ? -units : units;
        }
    }
}
