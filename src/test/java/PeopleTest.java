/** Promises 2 to 7: user, item, login, logout, witness, tick. */
public final class PeopleTest {
    private static final int MIN = Integer.MIN_VALUE;
    private static final int MAX = Integer.MAX_VALUE;
    private static final Check CHECK = new Check();

    public static void main(String[] args) {
        users();
        items();
        logins();
        locks();
        locksByWitness();
        rightCodeForgives();
        refusedCallsCountNoCode();
        logouts();
        witnesses();
        witnessEnds();
        ticks();
        idleGoesOut();
        acceptedCallsKeepIn();
        refusedCallsKeepNobodyIn();
        openStepKeepsIn();
        CHECK.end();
    }

    private static void due(String call, long got, long want) {
        CHECK.due(call, got, want);
    }

    private static DispenseCabinet peopled() {
        DispenseCabinet x = new DispenseCabinet();
        x.user(0, 0, 10);
        x.user(1, 1, 11);
        x.user(2, 2, 12);
        x.item(0, false, 0);
        return x;
    }

    private static void users() {
        DispenseCabinet x = new DispenseCabinet();
        due("user 0", x.user(0, 0, MIN), 0);
        due("user 15", x.user(15, 2, MAX), 0);
        due("user 16", x.user(16, 0, 1), -1);
        due("user -1", x.user(-1, 0, 1), -1);
        due("user MAX", x.user(MAX, 0, 1), -1);
        due("user MIN", x.user(MIN, 0, 1), -1);
        due("role 3", x.user(1, 3, 1), -1);
        due("role -1", x.user(1, -1, 1), -1);
        due("user 0 again", x.user(0, 1, 5), -1);
        due("the first code stays", x.login(0, MIN), 0);
        due("the first role stays", x.cancel(0), -1);
        due("login 15", x.login(15, MAX), 0);
        due("refused role made no user", x.login(1, 1), -1);
    }

    private static void items() {
        DispenseCabinet x = new DispenseCabinet();
        due("item 0", x.item(0, false, 0), 0);
        due("item 31", x.item(31, true, 10000), 0);
        due("item 32", x.item(32, false, 0), -1);
        due("item -1", x.item(-1, false, 0), -1);
        due("par -1", x.item(1, false, -1), -1);
        due("par 10001", x.item(1, false, 10001), -1);
        due("par MAX", x.item(1, false, MAX), -1);
        due("item 31 again", x.item(31, false, 5), -1);
        due("its par stays", x.stock(31, 1), 10000);
        due("refused item", x.stock(1, 0), -1);
    }

    private static void logins() {
        DispenseCabinet x = peopled();
        due("no such user", x.login(3, 0), -1);
        due("no such number", x.login(16, 0), -1);
        due("number below", x.login(-1, 0), -1);
        due("wrong", x.login(0, 11), -9);
        due("nobody yet", x.told(1), -1);
        due("right", x.login(0, 10), 0);
        due("in", x.told(1), 0);
        due("wrong of another", x.login(1, 10), -9);
        due("who was in stays", x.told(1), 0);
        due("another", x.login(1, 11), 0);
        due("another is in", x.told(1), 1);
        x.begin(1, 0);
        due("step open", x.login(0, 10), -4);
        due("step open, no such user", x.login(3, 10), -1);
        due("step open, wrong code", x.login(0, 11), -4);
        due("still in", x.told(1), 1);
        x.shut();
        due("step shut", x.login(0, 10), 0);
    }

    private static void locks() {
        DispenseCabinet x = peopled();
        x.tick(5);
        due("first", x.login(2, 0), -9);
        due("second", x.login(2, 0), -9);
        due("no lock yet", x.alarms(), 0);
        due("third", x.login(2, 0), -9);
        due("lock alarm", x.alarms(), 2);
        due("right while locked", x.login(2, 12), -10);
        due("wrong while locked", x.login(2, 0), -10);
        due("others are not locked", x.login(0, 10), 0);
        due("witness while locked", x.witness(2, 12), -10);
        x.tick(299);
        due("last second", x.login(2, 12), -10);
        due("last second's alarm", x.alarms(), 2);
        x.tick(1);
        due("alarm over", x.alarms(), 0);
        due("count is 0: first", x.login(2, 0), -9);
        due("count is 0: second", x.login(2, 0), -9);
        due("not locked again", x.login(2, 12), 0);
    }

    private static void locksByWitness() {
        DispenseCabinet x = peopled();
        x.login(1, 11);
        due("login wrong", x.login(2, 0), -9);
        due("witness wrong", x.witness(2, 0), -9);
        due("witness wrong, locks", x.witness(2, 0), -9);
        due("locked", x.witness(2, 12), -10);
        due("locked for login", x.login(2, 12), -10);
        due("who is in may be locked", x.login(1, 0), -9);
        x.login(1, 0);
        x.login(1, 0);
        due("and stays in", x.told(1), 1);
        due("and goes on", x.order(0, 1, 0, 9), 0);
        due("locked is before wrong", x.login(1, 0), -10);
    }

    private static void rightCodeForgives() {
        DispenseCabinet x = peopled();
        x.login(2, 0);
        x.login(2, 0);
        due("right login", x.login(2, 12), 0);
        x.login(1, 11);
        x.login(2, 0);
        x.login(2, 0);
        due("right witness", x.witness(2, 12), 120);
        due("wrong 1", x.witness(2, 0), -9);
        due("wrong 2", x.witness(2, 0), -9);
        due("right again", x.witness(2, 12), 120);
        due("others' right codes forgive nothing", x.login(0, 1), -9);
        x.login(0, 1);
        x.login(1, 11);
        due("third", x.login(0, 1), -9);
        due("locked", x.login(0, 10), -10);
    }

    private static void refusedCallsCountNoCode() {
        DispenseCabinet x = peopled();
        x.witness(2, 0);
        x.witness(2, 0);
        due("nobody in", x.witness(2, 0), -2);
        due("no lock of it", x.login(2, 12), 0);
        x.login(1, 11);
        x.login(0, 0);
        x.login(0, 0);
        x.begin(1, 0);
        due("wrong with a step", x.login(0, 0), -4);
        due("right with a step", x.login(0, 10), -4);
        x.shut();
        due("third, for none came between", x.login(0, 0), -9);
        due("locked", x.login(0, 10), -10);
        due("own code as witness is BAD", x.witness(1, 0), -1);
        x.witness(1, 0);
        x.witness(1, 0);
        due("not locked by it", x.login(1, 11), 0);
    }

    private static void logouts() {
        DispenseCabinet x = peopled();
        due("nobody", x.logout(), -2);
        x.login(1, 11);
        x.witness(0, 10);
        x.begin(1, 0);
        due("step", x.logout(), -4);
        due("in yet", x.told(1), 1);
        x.shut();
        due("out", x.logout(), 1);
        due("nobody in", x.told(1), -1);
        due("no witness", x.told(2), -1);
        due("nobody again", x.logout(), -2);
    }

    private static void witnesses() {
        DispenseCabinet x = peopled();
        due("nobody", x.witness(0, 10), -2);
        due("nobody, no such user", x.witness(9, 10), -1);
        x.login(1, 11);
        due("no such user", x.witness(9, 1), -1);
        due("no such number", x.witness(16, 1), -1);
        due("number below", x.witness(-1, 1), -1);
        due("who is in", x.witness(1, 11), -1);
        due("wrong", x.witness(0, 11), -9);
        due("none yet", x.told(2), -1);
        x.tick(3);
        due("an aide", x.witness(2, 12), 123);
        due("the witness", x.told(2), 2);
        due("wrong of another", x.witness(0, 11), -9);
        due("the witness stays", x.told(2), 2);
        x.tick(2);
        due("another", x.witness(0, 10), 125);
        due("the other is it", x.told(2), 0);
        x.begin(1, 0);
        due("while a step is open", x.witness(2, 12), 125);
        due("it is", x.told(2), 2);
    }

    private static void witnessEnds() {
        DispenseCabinet x = peopled();
        x.login(1, 11);
        x.witness(0, 10);
        x.tick(119);
        due("holds", x.told(2), 0);
        x.order(0, 1, 0, 5000);
        x.tick(1);
        due("holds no more", x.told(2), -1);
        due("but who is in stays", x.told(1), 1);
        x.witness(0, 10);
        x.login(2, 0);
        due("wrong login ends it not", x.told(2), 0);
        x.login(2, 12);
        due("login ends it", x.told(2), -1);
        x.witness(0, 10);
        x.login(2, 12);
        due("login of the same, too", x.told(2), -1);
        x.witness(0, 10);
        x.login(0, 10);
        due("login of the witness, too", x.told(2), -1);
    }

    private static void ticks() {
        DispenseCabinet x = peopled();
        due("0", x.tick(0), -1);
        due("-1", x.tick(-1), -1);
        due("1001", x.tick(1001), -1);
        due("MAX", x.tick(MAX), -1);
        due("MIN", x.tick(MIN), -1);
        due("none passed", x.told(0), 0);
        due("1", x.tick(1), 1);
        due("1000", x.tick(1000), 1001);
        due("time", x.told(0), 1001);
    }

    private static void idleGoesOut() {
        DispenseCabinet x = peopled();
        x.login(1, 11);
        x.tick(60);
        x.witness(0, 10);
        x.tick(119);
        due("119 seconds", x.told(1), 1);
        due("witness for 119", x.told(2), 0);
        x.tick(1);
        due("120 seconds", x.told(1), -1);
        due("witness gone", x.told(2), -1);
        due("order of nobody", x.order(0, 1, 0, 5000), -2);
    }

    /** Each accepted call of the list in the document starts the 120 seconds anew. */
    private static void acceptedCallsKeepIn() {
        for (int call = 0; call < 10; call++) {
            DispenseCabinet x = peopled();
            x.login(1, 11);
            x.begin(1, 0);
            x.amount(9, 0, 90000);
            x.shut();
            x.order(0, 5, 0, 90000);
            x.witness(0, 10);
            if (call == 6 || call == 7) {
                x.begin(call == 6 ? 2 : 0, 0);
            }
            x.tick(100);
            due("call " + call, acceptedCall(x, call), 0);
            if (call == 5 || call == 6 || call == 7) {
                x.shut();
            }
            x.tick(119);
            due("in after call " + call, x.told(1), 1);
            x.tick(1);
            due("out after call " + call, x.told(1), -1);
        }
    }

    private static int acceptedCall(DispenseCabinet x, int call) {
        switch (call) {
            case 0: return x.login(1, 11);
            case 1: return x.witness(0, 10) - 220;
            case 2: return x.order(0, 1, 0, 90000) - 1;
            case 3: return x.cancel(0) - 5;
            case 4: return x.giveBack(0, 1) - 1;
            case 5: return x.begin(0, 0);
            case 6: return x.count(9);
            case 7: return x.amount(0, 0, 0) - 9;
            case 8: return x.reconcile();
            default: x.begin(1, 1); return x.shut();
        }
    }

    private static void refusedCallsKeepNobodyIn() {
        DispenseCabinet x = peopled();
        x.login(1, 11);
        x.tick(100);
        x.login(0, 0);
        x.witness(0, 0);
        x.order(9, 1, 0, 5);
        x.cancel(0);
        x.begin(2, 0);
        x.count(1);
        x.amount(1, 0, 0);
        x.shut();
        x.giveBack(9, 1);
        x.reconcile();
        x.user(5, 0, 0);
        x.item(5, false, 0);
        x.told(0);
        x.alarms();
        x.lose(0);
        x.repair();
        x.audit();
        x.tick(20);
        due("refused calls and questions keep nobody in", x.told(1), -1);
    }

    private static void openStepKeepsIn() {
        DispenseCabinet x = peopled();
        x.login(1, 11);
        x.begin(1, 0);
        x.tick(1000);
        due("in with a step", x.told(1), 1);
        due("shut", x.shut(), 1000);
        due("in, for shut is a call of theirs", x.told(1), 1);
        x.tick(119);
        due("119 after shut", x.told(1), 1);
        x.tick(1);
        due("120 after shut", x.told(1), -1);
    }
}
