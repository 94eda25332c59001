/** The boundary cases of promises 2 to 7; above each test stands the sentence that it is for. */
public final class PeopleBoundsTest extends Bounds {
    public static void main(String[] args) {
        userNumbers();
        userRoles();
        userTwice();
        userCodes();
        itemNumbers();
        itemPars();
        itemTwice();
        loginOfAnother();
        loginOfNoUser();
        loginWithOpenStep();
        loginOfLockedUser();
        loginWithWrongCode();
        loginOrderOfCodes();
        logoutOfUser();
        logoutOfNobody();
        logoutWithOpenStep();
        witnessTime();
        witnessOfNoUser();
        witnessOfWhoIsIn();
        witnessOfNobody();
        witnessOfLockedUser();
        witnessWithWrongCode();
        witnessOrderOfCodes();
        tickSeconds();
        tickTime();
        CHECK.end();
    }

    /** Promise 2: "BAD: no such number" */
    private static void userNumbers() {
        due("0", peopled().user(0, 0, 0), BAD);
        due("0 of none", new DispenseCabinet().user(0, 0, 0), 0);
        due("15", peopled().user(15, 0, 0), 0);
        for (int id : new int[] {MIN, -1, 16, MAX}) {
            refused("user " + id, BAD, () -> with(NURSE), x -> x.user(id, 0, 0));
        }
    }

    /** Promise 2: "BAD: no such .. role" */
    private static void userRoles() {
        for (int role = 0; role <= 2; role++) {
            due("role " + role, peopled().user(NO_USER, role, 0), 0);
        }
        for (int role : new int[] {MIN, -1, 3, MAX}) {
            refused("role " + role, BAD, () -> with(NURSE), x -> x.user(NO_USER, role, 0));
            DispenseCabinet x = peopled();
            x.user(NO_USER, role, 0);
            due("no user of role " + role, x.login(NO_USER, 0), BAD);
            due("a role that is one", x.user(NO_USER, 0, 0), 0);
        }
    }

    /** Promise 2: "BAD: .. or there is that user", whose role and code stay. */
    private static void userTwice() {
        for (int id : new int[] {0, 15}) {
            DispenseCabinet x = new DispenseCabinet();
            x.item(0, false, 0);
            due("first", x.user(id, 1, 8), 0);
            due("again", x.user(id, 0, 9), BAD);
            due("the same again", x.user(id, 1, 8), BAD);
            due("new code", x.login(id, 9), WRONG);
            due("old code", x.login(id, 8), 0);
            due("old role", x.order(0, 1, 0, 9), 0);
            due("who is in, again", x.user(id, 2, 9), BAD);
        }
    }

    /** Promise 2: a code is any number. */
    private static void userCodes() {
        for (int code : new int[] {MIN, -1, 0, 1, MAX}) {
            DispenseCabinet x = new DispenseCabinet();
            due("user of code " + code, x.user(0, 0, code), 0);
            due("one less", x.login(0, code - 1), WRONG);
            due("one more", x.login(0, code + 1), WRONG);
            due("the code", x.login(0, code), 0);
        }
    }

    /** Promise 3: "BAD: no such number" */
    private static void itemNumbers() {
        due("0", new DispenseCabinet().item(0, true, 0), 0);
        due("31", new DispenseCabinet().item(31, true, 0), 0);
        for (int id : new int[] {MIN, -1, 32, MAX}) {
            refused("item " + id, BAD, () -> with(NURSE), x -> x.item(id, true, 1));
        }
    }

    /** Promise 3: "a par that is not 0 .. 10000" */
    private static void itemPars() {
        for (int par : new int[] {0, 1, 9999, 10000}) {
            DispenseCabinet x = new DispenseCabinet();
            due("par " + par, x.item(3, false, par), 0);
            due("below it", x.stock(3, 1), par);
        }
        for (int par : new int[] {MIN, -1, 10001, MAX}) {
            refused("par " + par, BAD, () -> with(NURSE), x -> x.item(NO_ITEM, true, par));
            DispenseCabinet x = new DispenseCabinet();
            x.item(3, false, par);
            due("no item of par " + par, x.stock(3, 0), BAD);
            due("a par that is one", x.item(3, false, 0), 0);
        }
    }

    /** Promise 3: "or there is that item", whose par and kind stay. */
    private static void itemTwice() {
        for (int id : new int[] {0, 31}) {
            DispenseCabinet x = new DispenseCabinet();
            x.user(0, 1, 0);
            x.login(0, 0);
            due("first", x.item(id, true, 7), 0);
            due("again", x.item(id, false, 8), BAD);
            due("the same again", x.item(id, true, 7), BAD);
            due("old par", x.stock(id, 1), 7);
            due("controlled yet", x.giveBack(id, 1), WITNESS);
        }
    }

    /** Promise 4: "A user is in, who was goes out: 0." */
    private static void loginOfAnother() {
        DispenseCabinet x = peopled();
        for (int id = NURSE; id <= SECOND; id++) {
            due("login", x.login(id, code(id)), 0);
            due("in", x.told(1), id);
        }
        due("login of the same", x.login(SECOND, code(SECOND)), 0);
        due("in", x.told(1), SECOND);
    }

    /** Promise 4: "BAD: no such user." */
    private static void loginOfNoUser() {
        for (int id : new int[] {MIN, -1, NO_USER, 15, 16, MAX}) {
            refused("login " + id, BAD, () -> with(NURSE), x -> x.login(id, 0));
        }
    }

    /** Promise 4: "STEP: one is open." */
    private static void loginWithOpenStep() {
        for (int kind = TAKE; kind <= WASTE; kind++) {
            int step = kind;
            int target = target(kind, FREE);
            refused("another", STEP, () -> begun(PHARMACIST, step, target), x -> x.login(NURSE, code(NURSE)));
            refused("the same", STEP, () -> begun(PHARMACIST, step, target),
                    x -> x.login(PHARMACIST, code(PHARMACIST)));
        }
        DispenseCabinet x = begun(PHARMACIST, FILL, FREE_BIN);
        x.shut();
        due("shut", x.login(NURSE, code(NURSE)), 0);
    }

    /** Promise 4: "LOCKED." */
    private static void loginOfLockedUser() {
        refused("right code", LOCKED, PeopleBoundsTest::aideLocked, x -> x.login(AIDE, code(AIDE)));
        due("another", aideLocked().login(NURSE, code(NURSE)), 0);
    }

    private static DispenseCabinet aideLocked() {
        DispenseCabinet x = with(PHARMACIST);
        lock(x, AIDE);
        return x;
    }

    /** Promise 4: "WRONG (also when that one locks)." */
    private static void loginWithWrongCode() {
        DispenseCabinet x = with(NURSE);
        due("first", x.login(AIDE, code(AIDE) - 1), WRONG);
        due("second", x.login(AIDE, code(AIDE) + 1), WRONG);
        due("third, which locks", x.login(AIDE, code(NURSE)), WRONG);
        due("fourth", x.login(AIDE, code(NURSE)), LOCKED);
        due("who was in stays", x.told(1), NURSE);
        refused("wrong", WRONG, () -> with(NURSE), y -> y.login(AIDE, 0));
    }

    /** Promise 4, where several would come: BAD, STEP, LOCKED, WRONG. */
    private static void loginOrderOfCodes() {
        DispenseCabinet x = aideLocked();
        due("LOCKED before WRONG", x.login(AIDE, 0), LOCKED);
        x.login(NURSE, 0);
        x.login(NURSE, 0);
        x.begin(FILL, 0);
        due("STEP before LOCKED", x.login(AIDE, code(AIDE)), STEP);
        due("STEP before WRONG", x.login(NURSE, 0), STEP);
        due("which counts not", x.alarms(), 2);
        due("a right code forgives not", x.login(NURSE, code(NURSE)), STEP);
        due("BAD before STEP", x.login(NO_USER, 0), BAD);
        x.shut();
        due("the third", x.login(NURSE, 0), WRONG);
        due("locked", x.login(NURSE, code(NURSE)), LOCKED);
    }

    /** Promise 5: "Who is in goes out: the user." */
    private static void logoutOfUser() {
        DispenseCabinet x = new DispenseCabinet();
        for (int id : new int[] {0, 15}) {
            x.user(id, 2, 0);
            x.login(id, 0);
            due("logout", x.logout(), id);
            due("in", x.told(1), -1);
        }
    }

    /** Promise 5: "NOBODY" */
    private static void logoutOfNobody() {
        refused("at first", NOBODY, () -> peopled(), x -> x.logout());
        DispenseCabinet x = with(NURSE);
        due("once", x.logout(), NURSE);
        due("twice", x.logout(), NOBODY);
        DispenseCabinet y = with(NURSE);
        y.tick(119);
        due("in time", y.logout(), NURSE);
        enter(y, NURSE);
        y.tick(120);
        due("out by time", y.logout(), NOBODY);
    }

    /** Promise 5: "STEP." */
    private static void logoutWithOpenStep() {
        for (int kind = TAKE; kind <= WASTE; kind++) {
            int step = kind;
            refused("kind " + kind, STEP, () -> begun(PHARMACIST, step, target(step, FREE)), x -> x.logout());
        }
        DispenseCabinet x = begun(PHARMACIST, TAKE, FREE_ORDER);
        x.amount(1, 0, 0);
        due("its amount is told", x.logout(), STEP);
        x.shut();
        due("shut", x.logout(), PHARMACIST);
    }

    /** Promise 6: "A user is the witness: the time at which it holds no more." */
    private static void witnessTime() {
        DispenseCabinet x = with(NURSE);
        due("at 0", x.witness(AIDE, code(AIDE)), 120);
        x.tick(1);
        due("at 1", x.witness(AIDE, code(AIDE)), 121);
        due("another", x.witness(SECOND, code(SECOND)), 121);
        due("the other", x.told(2), SECOND);
        x.tick(119);
        due("holds", x.told(2), SECOND);
        due("and who is in", x.told(1), NURSE);
        x.tick(1);
        due("holds no more", x.told(2), -1);
    }

    /** Promise 6: "BAD: no such user" */
    private static void witnessOfNoUser() {
        for (int id : new int[] {MIN, -1, NO_USER, 15, 16, MAX}) {
            refused("witness " + id, BAD, () -> witnessed(NURSE), x -> x.witness(id, 0));
        }
    }

    /** Promise 6: "BAD: .. or it is who is in." */
    private static void witnessOfWhoIsIn() {
        refused("right code", BAD, () -> witnessed(NURSE), x -> x.witness(NURSE, code(NURSE)));
        DispenseCabinet x = with(NURSE);
        for (int i = 0; i < 3; i++) {
            due("wrong code", x.witness(NURSE, 0), BAD);
        }
        due("which counts not", x.alarms(), 0);
    }

    /** Promise 6: "NOBODY" */
    private static void witnessOfNobody() {
        refused("nobody", NOBODY, () -> peopled(), x -> x.witness(AIDE, code(AIDE)));
        DispenseCabinet x = with(NURSE);
        x.tick(120);
        due("out by time", x.witness(AIDE, code(AIDE)), NOBODY);
        due("who was in", x.witness(NURSE, code(NURSE)), NOBODY);
    }

    /** Promise 6: "LOCKED" */
    private static void witnessOfLockedUser() {
        refused("right code", LOCKED, PeopleBoundsTest::aideLocked, x -> x.witness(AIDE, code(AIDE)));
        due("another", aideLocked().witness(NURSE, code(NURSE)), 120);
    }

    /** Promise 6: "WRONG." */
    private static void witnessWithWrongCode() {
        DispenseCabinet x = witnessed(NURSE);
        due("first", x.witness(AIDE, code(AIDE) - 1), WRONG);
        due("second", x.witness(AIDE, code(AIDE) + 1), WRONG);
        due("third, which locks", x.witness(AIDE, code(NURSE)), WRONG);
        due("alarm", x.alarms(), 2);
        due("fourth", x.witness(AIDE, code(NURSE)), LOCKED);
        due("who was witness stays", x.told(2), SECOND);
        refused("wrong", WRONG, () -> witnessed(NURSE), y -> y.witness(AIDE, 0));
        refused("wrong of the witness", WRONG, () -> witnessed(NURSE), y -> y.witness(SECOND, 0));
    }

    /** Promise 6, where several would come: BAD, NOBODY, LOCKED, WRONG. */
    private static void witnessOrderOfCodes() {
        DispenseCabinet x = aideLocked();
        due("LOCKED before WRONG", x.witness(AIDE, 0), LOCKED);
        lock(x, PHARMACIST);
        due("BAD before LOCKED", x.witness(PHARMACIST, code(PHARMACIST)), BAD);
        x.logout();
        due("NOBODY before LOCKED", x.witness(AIDE, code(AIDE)), NOBODY);
        for (int i = 0; i < 3; i++) {
            due("NOBODY before WRONG", x.witness(NURSE, 0), NOBODY);
        }
        due("which counts not", x.login(NURSE, code(NURSE)), 0);
        x.logout();
        due("BAD before NOBODY", x.witness(NO_USER, 0), BAD);
        due("BAD before NOBODY", x.witness(-1, 0), BAD);
    }

    /** Promise 7: "Some seconds, 1 .. 1000, pass", "BAD." */
    private static void tickSeconds() {
        due("1", peopled().tick(1), 1);
        due("1000", peopled().tick(1000), 1000);
        for (int seconds : new int[] {MIN, -1, 0, 1001, MAX}) {
            refused("tick " + seconds, BAD, () -> witnessed(NURSE), x -> x.tick(seconds));
        }
    }

    /** Promise 7: "the time", as far as the calls of one object go. */
    private static void tickTime() {
        DispenseCabinet x = new DispenseCabinet();
        for (int i = 1; i <= 500; i++) {
            due("time", x.tick(1000), 1000 * i);
        }
        due("told", x.told(0), 500000);
    }
}
