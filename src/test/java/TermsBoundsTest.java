/** The boundary cases of the document's section 'Terms'; above each test stands the sentence that it is for. */
public final class TermsBoundsTest extends Bounds {
    public static void main(String[] args) {
        timeIsAtFirst0();
        usersAre0To15();
        rolesAre0To2();
        atMostOneIsIn();
        secondWrongCodeLocksNot();
        thirdWrongCodeLocks();
        rightCodeBetweenLocksNot();
        wrongCodesOfOthersLockNot();
        lockEnds300SecondsLater();
        lockLeavesCountOf0();
        noCodeCountsWhileLocked();
        goesOutAfter120Seconds();
        staysInByAcceptedCalls();
        goesOutInSpiteOfOtherCalls();
        staysInWithOpenStep();
        witnessHoldsFor120Seconds();
        witnessEndsWithLogin();
        witnessEndsWhenSomebodyGoesOut();
        witnessIsAnother();
        itemsAre0To31();
        binsAre0To63();
        binIsOfNoItemAtFirst();
        binIsForEverOfItsItem();
        lotIsExpiredFromItsExpiryOn();
        binHas6LotsAtMost();
        emptyLotsAreNone();
        lotsStandInOrder();
        ordersAre60AtMost();
        orderIsOpenUntilItsEnd();
        orderIsOpenWhileUnitsAreLeft();
        orderIsOpenUntilCancelled();
        gapMustPass();
        longestGapMustPass();
        gap0IsNone();
        takingOf0StartsNoGap();
        oneStepIsOpenAtMost();
        whatMustBeCounted();
        amountIsToldOnce();
        rolesOfSteps();
        witnessOfSteps();
        mayBeCountedOnce();
        ledgerHas300EntriesAtMost();
        entriesOfAllKinds();
        entryCountsWithoutWholeCopy();
        CHECK.end();
    }

    /** "TIME is in seconds, at first 0." */
    private static void timeIsAtFirst0() {
        DispenseCabinet x = new DispenseCabinet();
        due("at first", x.told(0), 0);
        x.tick(1);
        due("a second later", x.told(0), 1);
    }

    /** "USERS are 0 .. 15" */
    private static void usersAre0To15() {
        DispenseCabinet x = new DispenseCabinet();
        for (int id = 0; id <= 15; id++) {
            due("user " + id, x.user(id, id % 3, 7 * id), 0);
        }
        for (int id = 0; id <= 15; id++) {
            due("login " + id, x.login(id, 7 * id), 0);
            due("in", x.told(1), id);
        }
        for (int id : new int[] {MIN, -1, 16, MAX}) {
            due("user " + id, x.user(id, 0, 0), BAD);
            due("login " + id, x.login(id, 0), BAD);
            due("witness " + id, x.witness(id, 0), BAD);
        }
    }

    /** "each with a ROLE, 0 NURSE, 1 PHARMACIST, 2 AIDE" */
    private static void rolesAre0To2() {
        DispenseCabinet x = new DispenseCabinet();
        x.item(0, false, 0);
        for (int role = 0; role <= 2; role++) {
            due("role " + role, x.user(role, role, 5), 0);
            x.login(role, 5);
            due("order of role " + role, x.order(0, 1, 0, 9), role == 1 ? 0 : ROLE);
            due("back by role " + role, x.giveBack(0, 1), role == 2 ? ROLE : role + 1);
        }
    }

    /** "At most one is IN." */
    private static void atMostOneIsIn() {
        DispenseCabinet x = with(NURSE);
        enter(x, AIDE);
        due("the other is in", x.told(1), AIDE);
        due("and goes out", x.logout(), AIDE);
        due("nobody is left", x.told(1), -1);
        due("nobody", x.logout(), NOBODY);
    }

    /** "A WRONG code counts for the user; the third one without a right one between LOCKS the user" */
    private static void secondWrongCodeLocksNot() {
        DispenseCabinet x = peopled();
        due("first", x.login(AIDE, 0), WRONG);
        due("second", x.login(AIDE, 0), WRONG);
        due("no alarm", x.alarms(), 0);
        due("right", x.login(AIDE, code(AIDE)), 0);
    }

    /** The same, for the third: of login() alone, of witness() alone, of both. */
    private static void thirdWrongCodeLocks() {
        for (int logins = 0; logins <= 3; logins++) {
            DispenseCabinet x = with(PHARMACIST);
            for (int i = 0; i < 3; i++) {
                due("no alarm", x.alarms(), 0);
                due("wrong " + i, i < logins ? x.login(AIDE, 0) : x.witness(AIDE, 0), WRONG);
            }
            due("alarm", x.alarms(), 2);
            due("login", x.login(AIDE, code(AIDE)), LOCKED);
            due("witness", x.witness(AIDE, code(AIDE)), LOCKED);
        }
    }

    /** "without a right one between", of login() or of witness(). */
    private static void rightCodeBetweenLocksNot() {
        for (int byWitness = 0; byWitness < 2; byWitness++) {
            DispenseCabinet x = with(PHARMACIST);
            x.login(AIDE, 0);
            x.login(AIDE, 0);
            int right = byWitness == 1 ? x.witness(AIDE, code(AIDE)) : x.login(AIDE, code(AIDE));
            due("right", right, byWitness == 1 ? 120 : 0);
            due("first again", x.login(AIDE, 0), WRONG);
            due("second again", x.login(AIDE, 0), WRONG);
            due("no alarm", x.alarms(), 0);
            due("third again", x.login(AIDE, 0), WRONG);
            due("alarm", x.alarms(), 2);
        }
    }

    /** "A WRONG code counts for the user", and for no other; nor is another's right one between. */
    private static void wrongCodesOfOthersLockNot() {
        DispenseCabinet x = peopled();
        for (int id = NURSE; id <= SECOND; id++) {
            x.login(id, 0);
            x.login(id, 0);
        }
        due("two of each", x.alarms(), 0);
        enter(x, PHARMACIST);
        due("third of the aide", x.login(AIDE, 0), WRONG);
        due("locked", x.login(AIDE, code(AIDE)), LOCKED);
        due("another", x.login(NURSE, code(NURSE)), 0);
    }

    /** "LOCKS the user until 300 seconds later" */
    private static void lockEnds300SecondsLater() {
        DispenseCabinet x = peopled();
        x.tick(7);
        lock(x, AIDE);
        x.tick(299);
        due("299 seconds later", x.login(AIDE, code(AIDE)), LOCKED);
        due("alarm", x.alarms(), 2);
        x.tick(1);
        due("no alarm", x.alarms(), 0);
        due("300 seconds later", x.login(AIDE, code(AIDE)), 0);
        DispenseCabinet y = with(PHARMACIST);
        lock(y, AIDE);
        y.tick(300);
        enter(y, PHARMACIST);
        due("as witness", y.witness(AIDE, code(AIDE)), 420);
    }

    /** "(the count is 0 then)" */
    private static void lockLeavesCountOf0() {
        DispenseCabinet x = peopled();
        lock(x, AIDE);
        x.tick(300);
        due("first", x.login(AIDE, 0), WRONG);
        due("second", x.login(AIDE, 0), WRONG);
        due("no alarm", x.alarms(), 0);
        due("third", x.login(AIDE, 0), WRONG);
        due("alarm", x.alarms(), 2);
        x.tick(299);
        due("locked anew", x.login(AIDE, code(AIDE)), LOCKED);
        x.tick(1);
        due("no more", x.login(AIDE, code(AIDE)), 0);
    }

    /** "(while a user is LOCKED no code counts)" */
    private static void noCodeCountsWhileLocked() {
        DispenseCabinet x = peopled();
        lock(x, AIDE);
        x.tick(100);
        for (int i = 0; i < 3; i++) {
            due("wrong while locked", x.login(AIDE, 0), LOCKED);
        }
        due("right while locked", x.login(AIDE, code(AIDE)), LOCKED);
        due("wrong again", x.login(AIDE, 0), LOCKED);
        x.tick(200);
        due("the lock is no longer for it", x.alarms(), 0);
        due("first", x.login(AIDE, 0), WRONG);
        due("second", x.login(AIDE, 0), WRONG);
        due("no third", x.login(AIDE, code(AIDE)), 0);
    }

    /** "Who is in goes out when 120 seconds have passed since a call of theirs was accepted" */
    private static void goesOutAfter120Seconds() {
        DispenseCabinet x = with(NURSE);
        x.tick(119);
        due("119 seconds", x.told(1), NURSE);
        x.tick(1);
        due("120 seconds", x.told(1), -1);
        due("nobody", x.logout(), NOBODY);
        DispenseCabinet y = with(NURSE);
        y.tick(120);
        due("120 seconds at once", y.told(1), -1);
        DispenseCabinet z = with(NURSE);
        z.tick(1000);
        due("1000 seconds at once", z.told(1), -1);
    }

    /** "(login, witness, order, cancel, begin, count, amount, giveBack, shut, reconcile)" */
    private static void staysInByAcceptedCalls() {
        for (int call = 0; call < 7; call++) {
            DispenseCabinet x = witnessed(PHARMACIST);
            x.tick(100);
            CHECK.holds("accepted " + call, acceptedCall(x, call) >= 0);
            x.tick(119);
            due("119 seconds after call " + call, x.told(1), PHARMACIST);
            x.tick(1);
            due("120 seconds after call " + call, x.told(1), -1);
        }
    }

    /** A step's calls end with shut(), so that one stands for begin(), count() and amount(), too. */
    private static int acceptedCall(DispenseCabinet x, int call) {
        switch (call) {
            case 0: return x.login(PHARMACIST, code(PHARMACIST));
            case 1: return x.witness(NURSE, code(NURSE));
            case 2: return x.order(FREE, 1, 0, LATER);
            case 3: return x.cancel(FREE_ORDER);
            case 4: return x.giveBack(FREE, 1);
            case 5: return x.reconcile();
            default: x.begin(FILL, NEW_BIN); return x.shut();
        }
    }

    /** Calls that are refused, and those that the list does not have, are none that keep who is in. */
    private static void goesOutInSpiteOfOtherCalls() {
        for (int call = 0; call < 20; call++) {
            DispenseCabinet x = stocked(PHARMACIST);
            x.tick(100);
            otherCall(x, call);
            x.tick(19);
            due("119 seconds, call " + call, x.told(1), PHARMACIST);
            x.tick(1);
            due("120 seconds, call " + call, x.told(1), -1);
        }
    }

    private static int otherCall(DispenseCabinet x, int call) {
        switch (call) {
            case 0: return x.login(NURSE, 0);
            case 1: return x.login(PHARMACIST, 0);
            case 2: return x.witness(NURSE, 0);
            case 3: return x.witness(PHARMACIST, code(PHARMACIST));
            case 4: return x.order(FREE, 0, 0, LATER);
            case 5: return x.cancel(CANCELLED_ORDER);
            case 6: return x.begin(WASTE, FREE_BIN);
            case 7: return x.count(9);
            case 8: return x.amount(1, FREE, LATER);
            case 9: return x.shut();
            case 10: return x.giveBack(CONTROLLED, 1);
            case 11: return x.reconcile();
            case 12: return x.user(9, 0, 0);
            case 13: return x.item(9, false, 0);
            case 14: return x.lose(0);
            case 15: return x.repair();
            case 16: return x.audit();
            case 17: return x.told(1);
            case 18: return x.bin(FREE_BIN, 1);
            default: return x.tick(0);
        }
    }

    /** "if no step is open" */
    private static void staysInWithOpenStep() {
        for (int kind = TAKE; kind <= WASTE; kind++) {
            DispenseCabinet x = begun(PHARMACIST, kind, target(kind, FREE));
            x.tick(120);
            due("120 seconds, kind " + kind, x.told(1), PHARMACIST);
            x.tick(1000);
            due("1120 seconds, kind " + kind, x.told(1), PHARMACIST);
            if (kind == COUNT) {
                x.count(9);
            }
            due("shut", x.shut(), 1120);
            due("in when it is shut", x.told(1), PHARMACIST);
            x.tick(119);
            due("119 seconds after shut", x.told(1), PHARMACIST);
            x.tick(1);
            due("120 seconds after shut", x.told(1), -1);
        }
    }

    /** "it holds as long as the time is below the one 120 seconds later" */
    private static void witnessHoldsFor120Seconds() {
        DispenseCabinet x = stocked(PHARMACIST);
        x.tick(5);
        due("the time", x.witness(AIDE, code(AIDE)), 125);
        x.tick(119);
        due("at 124", x.told(2), AIDE);
        due("WASTE at 124", x.begin(WASTE, FREE_BIN), FREE_BIN);
        x.shut();
        x.tick(1);
        due("at 125", x.told(2), -1);
        due("who is in stays", x.told(1), PHARMACIST);
        due("WASTE at 125", x.begin(WASTE, FREE_BIN), WITNESS);
        due("TAKE at 125", x.begin(TAKE, CONTROLLED_ORDER), WITNESS);
        due("give back at 125", x.giveBack(CONTROLLED, 1), WITNESS);
        due("reconcile at 125", x.reconcile(), WITNESS);
        due("a new witness", x.witness(AIDE, code(AIDE)), 245);
        x.tick(60);
        due("the same once more", x.witness(AIDE, code(AIDE)), 305);
        x.tick(119);
        due("at 304", x.told(2), AIDE);
    }

    /** "and until somebody logs in" */
    private static void witnessEndsWithLogin() {
        for (int user = NURSE; user <= SECOND; user++) {
            DispenseCabinet x = with(PHARMACIST);
            witness(x, SECOND);
            due("a wrong code is no login", x.login(user, 0), WRONG);
            due("the witness holds", x.told(2), SECOND);
            due("no such user is no login", x.login(NO_USER, 0), BAD);
            due("the witness holds", x.told(2), SECOND);
            enter(x, user);
            due("no witness after login of " + user, x.told(2), -1);
        }
    }

    /** "or goes out": by logout(), or by the time. */
    private static void witnessEndsWhenSomebodyGoesOut() {
        DispenseCabinet x = with(PHARMACIST);
        witness(x, AIDE);
        due("logout", x.logout(), PHARMACIST);
        due("no witness", x.told(2), -1);
        DispenseCabinet y = with(PHARMACIST);
        witness(y, AIDE);
        y.tick(120);
        due("nobody in", y.told(1), -1);
        due("no witness", y.told(2), -1);
        enter(y, PHARMACIST);
        due("none of before", y.told(2), -1);
    }

    /** "A WITNESS is another user, whose code was given while somebody is in" */
    private static void witnessIsAnother() {
        DispenseCabinet x = peopled();
        due("nobody is in", x.witness(AIDE, code(AIDE)), NOBODY);
        due("none", x.told(2), -1);
        enter(x, AIDE);
        due("who is in", x.witness(AIDE, code(AIDE)), BAD);
        due("none", x.told(2), -1);
        due("another", x.witness(NURSE, code(NURSE)), 120);
        due("the other", x.told(2), NURSE);
    }

    /** "ITEMS are 0 .. 31" */
    private static void itemsAre0To31() {
        DispenseCabinet x = new DispenseCabinet();
        for (int id = 0; id <= 31; id++) {
            due("item " + id, x.item(id, false, id), 0);
        }
        for (int id = 0; id <= 31; id++) {
            due("par of " + id, x.stock(id, 1), id);
        }
        x.user(0, 1, 0);
        x.login(0, 0);
        due("order of 31", x.order(31, 1, 0, 9), 0);
        due("back of 31", x.giveBack(31, 1), 1);
        for (int id : new int[] {MIN, -1, 32, MAX}) {
            due("item " + id, x.item(id, false, 0), BAD);
            due("stock of " + id, x.stock(id, 0), BAD);
            due("order of " + id, x.order(id, 1, 0, 9), BAD);
            due("back of " + id, x.giveBack(id, 1), BAD);
        }
    }

    /** "BINS are 0 .. 63" */
    private static void binsAre0To63() {
        DispenseCabinet x = with(PHARMACIST);
        for (int bin = 0; bin <= 63; bin++) {
            due("FILL of " + bin, x.begin(FILL, bin), bin);
            due("lot of " + bin, x.amount(1 + bin, FREE, LATER), 1 + bin);
            x.shut();
        }
        for (int bin = 0; bin <= 63; bin++) {
            due("book of " + bin, x.bin(bin, 1), 1 + bin);
        }
        due("of all", x.stock(FREE, 0), 64 * 65 / 2);
        for (int bin : new int[] {MIN, -1, 64, MAX}) {
            due("bin " + bin, x.bin(bin, 0), BAD);
            due("lot of " + bin, x.lot(bin, 0, true), BAD);
            due("FILL of " + bin, x.begin(FILL, bin), BAD);
            due("COUNT of " + bin, x.begin(COUNT, bin), BAD);
            due("WASTE of " + bin, x.begin(WASTE, bin), BAD);
        }
    }

    /** "a bin is of no item, until the first lot comes in" */
    private static void binIsOfNoItemAtFirst() {
        DispenseCabinet x = with(PHARMACIST);
        due("at first", x.bin(NEW_BIN, 0), -1);
        x.begin(FILL, NEW_BIN);
        due("begun", x.bin(NEW_BIN, 0), -1);
        x.amount(0, CONTROLLED, LATER);
        due("refused", x.bin(NEW_BIN, 0), -1);
        x.shut();
        due("shut without a lot", x.bin(NEW_BIN, 0), -1);
        fill(x, NEW_BIN, 1, FREE, LATER);
        due("of the first lot", x.bin(NEW_BIN, 0), FREE);
    }

    /** "then for ever of that": emptied by TAKE, COUNT and WASTE. */
    private static void binIsForEverOfItsItem() {
        for (int kind : new int[] {TAKE, COUNT, WASTE}) {
            DispenseCabinet x = begun(PHARMACIST, kind, target(kind, FREE));
            x.count(kind == COUNT ? 0 : 5);
            x.amount(5, 0, 0);
            x.shut();
            due("no lots", x.bin(FREE_BIN, 4), 0);
            due("its item", x.bin(FREE_BIN, 0), FREE);
            x.begin(FILL, FREE_BIN);
            due("another item", x.amount(1, CONTROLLED, LATER), BAD);
            due("its item", x.amount(1, FREE, LATER), 1);
            x.shut();
            due("COUNT", x.begin(COUNT, FREE_BIN), FREE_BIN);
        }
    }

    /** "(a time; it is EXPIRED from then on)", and "what can be GIVEN those that are not expired" */
    private static void lotIsExpiredFromItsExpiryOn() {
        DispenseCabinet x = with(PHARMACIST);
        fill(x, 0, 4, FREE, 50);
        x.order(FREE, 4, 0, LATER);
        x.tick(49);
        due("book before", x.bin(0, 1), 4);
        due("given before", x.bin(0, 2), 4);
        due("stock before", x.stock(FREE, 0), 4);
        due("alarms before", x.alarms(), 0);
        due("TAKE before", x.begin(TAKE, 0), 0);
        x.tick(1);
        due("taken then", x.amount(1, 0, 0), SHORT);
        x.shut();
        due("book then", x.bin(0, 1), 4);
        due("given then", x.bin(0, 2), 0);
        due("stock then", x.stock(FREE, 0), 0);
        due("alarms then", x.alarms(), 16);
        due("TAKE then", x.begin(TAKE, 0), SHORT);
        x.tick(1);
        due("given later", x.bin(0, 2), 0);
    }

    /** "a bin has 6 at most" */
    private static void binHas6LotsAtMost() {
        DispenseCabinet x = with(PHARMACIST);
        for (int i = 1; i <= 6; i++) {
            fill(x, 0, i, FREE, LATER);
            due("lots", x.bin(0, 4), i);
        }
        due("the seventh", x.begin(FILL, 0), FULL);
        due("of another bin", x.begin(FILL, 1), 1);
        x.shut();
        lotsAre(x, 0, LATER, 1, LATER, 2, LATER, 3, LATER, 4, LATER, 5, LATER, 6);
        countTo(x, 0, 20);
        lotsAre(x, 0, LATER, 2, LATER, 3, LATER, 4, LATER, 5, LATER, 6);
        fill(x, 0, 7, FREE, LATER);
        due("six again", x.begin(FILL, 0), FULL);
    }

    /** "without empty ones": the last unit of a lot is taken, wasted or counted away, or one less, or one more. */
    private static void emptyLotsAreNone() {
        for (int kind : new int[] {TAKE, COUNT, WASTE}) {
            for (int units = 2; units <= 4; units++) {
                DispenseCabinet x = with(PHARMACIST);
                fill(x, 0, 3, FREE, 50);
                fill(x, 0, 3, FREE, 60);
                x.order(FREE, 9, 0, LATER);
                witness(x, AIDE);
                x.begin(kind, 0);
                if (kind == COUNT) {
                    due("counted", x.count(6 - units), -units);
                } else {
                    due("amount of kind " + kind, x.amount(units, 0, 0), 6 - units);
                }
                due("lots less " + units, x.bin(0, 4), units == 2 ? 2 : 1);
                due("expiry of the first", x.lot(0, 0, true), units == 2 ? 50 : 60);
                due("units of the first", x.lot(0, 0, false), units == 2 ? 1 : 6 - units);
            }
        }
    }

    /** "they stand in order of expiry, of the same in that of coming" */
    private static void lotsStandInOrder() {
        DispenseCabinet x = with(PHARMACIST);
        fill(x, 0, 1, FREE, 60);
        fill(x, 0, 2, FREE, 60);
        fill(x, 0, 3, FREE, 59);
        fill(x, 0, 4, FREE, 61);
        fill(x, 0, 5, FREE, 60);
        fill(x, 0, 6, FREE, 59);
        lotsAre(x, 0, 59, 3, 59, 6, 60, 1, 60, 2, 60, 5, 61, 4);
        fill(x, 1, 1, FREE, MAX);
        fill(x, 1, 2, FREE, 1);
        lotsAre(x, 1, 1, 2, MAX, 1);
    }

    /** "ORDERS have numbers 0, 1, .., 60 at most" */
    private static void ordersAre60AtMost() {
        DispenseCabinet x = with(PHARMACIST);
        for (int i = 0; i < 60; i++) {
            due("order", x.order(FREE, i + 1, 0, LATER), i);
        }
        due("the 61st", x.order(FREE, 1, 0, LATER), FULL);
        due("the last's units", x.orderTold(59, 1), 60);
        due("none behind it", x.orderTold(60, 1), BAD);
        due("a cancelled one", x.cancel(59), 60);
        due("keeps its number", x.order(FREE, 1, 0, LATER), FULL);
    }

    /** "and an end: it is OPEN until that time" */
    private static void orderIsOpenUntilItsEnd() {
        DispenseCabinet x = with(PHARMACIST);
        fill(x, 0, 9, FREE, LATER);
        x.order(FREE, 1, 0, 50);
        x.order(FREE, 1, 0, 50);
        x.tick(49);
        due("open", x.orderTold(0, 2), 1);
        due("TAKE", x.begin(TAKE, 0), 0);
        x.shut();
        due("cancelled before", x.cancel(1), 1);
        x.tick(1);
        due("not open", x.orderTold(0, 2), 0);
        due("TAKE then", x.begin(TAKE, 0), ORDER);
        due("cancelled then", x.cancel(0), ORDER);
        due("left", x.orderTold(0, 1), 1);
    }

    /** "if units are left" */
    private static void orderIsOpenWhileUnitsAreLeft() {
        DispenseCabinet x = with(PHARMACIST);
        fill(x, 0, 9, FREE, LATER);
        x.order(FREE, 3, 0, LATER);
        x.begin(TAKE, 0);
        x.amount(2, 0, 0);
        x.shut();
        due("one is left", x.orderTold(0, 1), 1);
        due("open", x.orderTold(0, 2), 1);
        due("TAKE", x.begin(TAKE, 0), 0);
        x.amount(1, 0, 0);
        x.shut();
        due("none is left", x.orderTold(0, 1), 0);
        due("not open", x.orderTold(0, 2), 0);
        due("TAKE then", x.begin(TAKE, 0), ORDER);
        due("cancelled then", x.cancel(0), ORDER);
    }

    /** "and it is not cancelled" */
    private static void orderIsOpenUntilCancelled() {
        DispenseCabinet x = stocked(PHARMACIST);
        due("open", x.orderTold(FREE_ORDER, 2), 1);
        due("cancel", x.cancel(FREE_ORDER), 5);
        due("not open", x.orderTold(FREE_ORDER, 2), 0);
        due("TAKE then", x.begin(TAKE, FREE_ORDER), ORDER);
        due("cancelled again", x.cancel(FREE_ORDER), ORDER);
    }

    /** "between two takings (of more than 0 units) at least the gap must pass" */
    private static void gapMustPass() {
        DispenseCabinet x = with(PHARMACIST);
        fill(x, 0, 9, FREE, LATER);
        x.order(FREE, 9, 30, LATER);
        due("none before the first", x.begin(TAKE, 0), 0);
        x.tick(10);
        x.amount(1, 0, 0);
        x.tick(5);
        x.shut();
        x.tick(24);
        due("29 seconds since the taking", x.begin(TAKE, 0), ORDER);
        due("open all the same", x.orderTold(0, 2), 1);
        x.tick(1);
        due("30 seconds since the taking", x.begin(TAKE, 0), 0);
        x.amount(1, 0, 0);
        x.shut();
        x.tick(29);
        due("29 seconds since the second", x.begin(TAKE, 0), ORDER);
        x.tick(1);
        due("30 seconds since the second", x.begin(TAKE, 0), 0);
    }

    /** The same for the longest gap, 100000. */
    private static void longestGapMustPass() {
        DispenseCabinet x = with(PHARMACIST);
        fill(x, 0, 9, FREE, MAX);
        x.order(FREE, 9, 100000, MAX);
        x.begin(TAKE, 0);
        x.amount(1, 0, 0);
        x.shut();
        pass(x, 99999);
        enter(x, PHARMACIST);
        due("99999 seconds", x.begin(TAKE, 0), ORDER);
        x.tick(1);
        due("100000 seconds", x.begin(TAKE, 0), 0);
    }

    /** The same for a gap of 0. */
    private static void gap0IsNone() {
        DispenseCabinet x = stocked(PHARMACIST);
        for (int i = 0; i < 2; i++) {
            due("at once", x.begin(TAKE, FREE_ORDER), FREE_BIN);
            x.amount(1, 0, 0);
            x.shut();
        }
    }

    /** "(of more than 0 units)": neither a taking of 0 nor a step without an amount. */
    private static void takingOf0StartsNoGap() {
        DispenseCabinet x = with(PHARMACIST);
        fill(x, 0, 9, FREE, LATER);
        x.order(FREE, 9, 30, LATER);
        x.begin(TAKE, 0);
        due("0 units", x.amount(0, 0, 0), 9);
        x.shut();
        due("no gap for 0", x.begin(TAKE, 0), 0);
        x.shut();
        due("no gap without an amount", x.begin(TAKE, 0), 0);
        due("1 unit", x.amount(1, 0, 0), 8);
        x.shut();
        due("a gap for 1", x.begin(TAKE, 0), ORDER);
        x.tick(30);
        x.begin(TAKE, 0);
        x.amount(0, 0, 0);
        x.shut();
        due("0 starts it not anew", x.begin(TAKE, 0), 0);
    }

    /** "A STEP is open, or none; it is of a bin, whose lid is open as long" */
    private static void oneStepIsOpenAtMost() {
        for (int kind = TAKE; kind <= WASTE; kind++) {
            int target = target(kind, FREE);
            DispenseCabinet x = begun(PHARMACIST, kind, target);
            due("kind", x.told(3), kind);
            due("bin", x.told(4), FREE_BIN);
            due("lid", x.bin(FREE_BIN, 5), 1);
            due("other lid", x.bin(CONTROLLED_BIN, 5), 0);
            for (int other = TAKE; other <= WASTE; other++) {
                due("another", x.begin(other, target(other, CONTROLLED)), STEP);
            }
            x.count(9);
            due("shut", x.shut(), 0);
            due("no kind", x.told(3), -1);
            due("no bin", x.told(4), -1);
            due("lid shut", x.bin(FREE_BIN, 5), 0);
            due("the next", x.begin(kind, target), FREE_BIN);
        }
    }

    /** "COUNT must be counted, TAKE and WASTE only for a controlled item" */
    private static void whatMustBeCounted() {
        for (int kind = TAKE; kind <= WASTE; kind++) {
            for (int item = FREE; item <= CONTROLLED; item++) {
                boolean must = kind == COUNT || kind != FILL && item == CONTROLLED;
                DispenseCabinet x = begun(PHARMACIST, kind, target(kind, item));
                due("must, kind " + kind + " item " + item, x.told(5), must ? 1 : 0);
                int uncounted = x.amount(1, item, LATER);
                due("amount uncounted", uncounted, must ? STEP : kind == FILL ? 10 : 8);
                due("count", x.count(9), must ? 0 : STEP);
                due("need no more", x.told(5), 0);
            }
        }
    }

    /** "amounts are told once, but none for COUNT" */
    private static void amountIsToldOnce() {
        for (int kind = TAKE; kind <= WASTE; kind++) {
            DispenseCabinet x = begun(PHARMACIST, kind, target(kind, CONTROLLED));
            x.count(9);
            int book = kind == FILL ? 10 : 8;
            due("once, kind " + kind, x.amount(1, CONTROLLED, LATER), kind == COUNT ? STEP : book);
            due("twice", x.amount(1, CONTROLLED, LATER), STEP);
            due("book", x.bin(CONTROLLED_BIN, 1), kind == COUNT ? 9 : book);
        }
    }

    /** "FILL wants role 1, the others role 0 or 1" */
    private static void rolesOfSteps() {
        for (int kind = TAKE; kind <= WASTE; kind++) {
            int target = target(kind, FREE);
            due("pharmacist, kind " + kind, witnessed(PHARMACIST).begin(kind, target), FREE_BIN);
            due("nurse, kind " + kind, witnessed(NURSE).begin(kind, target), kind == FILL ? ROLE : FREE_BIN);
            due("aide, kind " + kind, witnessed(AIDE).begin(kind, target), ROLE);
        }
    }

    /** "WASTE, and TAKE if the item is controlled, want a witness, too." */
    private static void witnessOfSteps() {
        for (int kind = TAKE; kind <= WASTE; kind++) {
            for (int item = FREE; item <= CONTROLLED; item++) {
                boolean wants = kind == WASTE || kind == TAKE && item == CONTROLLED;
                int bin = FREE_BIN + item;
                String name = "kind " + kind + " item " + item;
                due(name + " alone", stocked(PHARMACIST).begin(kind, target(kind, item)), wants ? WITNESS : bin);
                due(name + " witnessed", witnessed(PHARMACIST).begin(kind, target(kind, item)), bin);
            }
        }
    }

    /** "TAKE and WASTE may be counted once also where they need not, before their amount." */
    private static void mayBeCountedOnce() {
        for (int kind = TAKE; kind <= WASTE; kind += WASTE) {
            int target = target(kind, FREE);
            DispenseCabinet x = begun(NURSE, kind, target);
            due("once", x.count(8), -1);
            due("twice", x.count(8), STEP);
            due("amount", x.amount(1, 0, 0), 7);
            due("behind it", x.count(7), STEP);
            DispenseCabinet y = begun(NURSE, kind, target);
            due("amount alone", y.amount(1, 0, 0), 8);
            due("count behind it", y.count(8), STEP);
        }
    }

    /** "THE LEDGER has entries, 300 at most" */
    private static void ledgerHas300EntriesAtMost() {
        DispenseCabinet x = writtenInStep(299, TAKE, FREE_ORDER);
        due("the last", x.count(1), 0);
        due("entries", x.told(6), 300);
        due("amount", x.amount(1, 0, 0), FULL);
        due("short", x.amount(2, 0, 0), SHORT);
        due("count", x.count(1), FULL);
        due("entries", x.told(6), 300);
        due("the last", x.entry(299, 0), 3);
        due("none behind it", x.entry(300, 0), BAD);
    }

    /** "a kind, a time, who is in, a bin (or -1), units, and an order (or -1): 1 a lot came in, .." */
    private static void entriesOfAllKinds() {
        DispenseCabinet x = witnessed(PHARMACIST);
        x.tick(3);
        x.begin(TAKE, CONTROLLED_ORDER);
        x.count(8);
        x.amount(2, 0, 0);
        x.shut();
        x.begin(WASTE, CONTROLLED_BIN);
        x.count(7);
        x.amount(0, 0, 0);
        x.shut();
        x.giveBack(FREE, 1);
        x.giveBack(CONTROLLED, 1000);
        x.reconcile();
        entryIs(x, 0, 1, 0, PHARMACIST, FREE_BIN, 9, -1);
        entryIs(x, 1, 1, 0, PHARMACIST, CONTROLLED_BIN, 9, -1);
        entryIs(x, 2, 3, 3, PHARMACIST, CONTROLLED_BIN, -1, CONTROLLED_ORDER);
        entryIs(x, 3, 2, 3, PHARMACIST, CONTROLLED_BIN, 2, CONTROLLED_ORDER);
        entryIs(x, 4, 3, 3, PHARMACIST, CONTROLLED_BIN, 1, -1);
        entryIs(x, 5, 4, 3, PHARMACIST, CONTROLLED_BIN, 0, -1);
        entryIs(x, 6, 5, 3, PHARMACIST, -1, 1, -1);
        entryIs(x, 7, 5, 3, PHARMACIST, -2, 1000, -1);
        entryIs(x, 8, 6, 3, PHARMACIST, -1, 1, -1);
        due("entries", x.told(6), 9);
    }

    /** "(an entry counts also while no copy is whole)" */
    private static void entryCountsWithoutWholeCopy() {
        DispenseCabinet x = witnessed(PHARMACIST);
        x.lose(0);
        x.lose(1);
        due("entries", x.told(6), 2);
        x.giveBack(FREE, 1);
        due("given back", x.told(6), 3);
        fill(x, NEW_BIN, 1, FREE, LATER);
        due("came in", x.told(6), 4);
        countTo(x, NEW_BIN, 2);
        due("counted", x.told(6), 5);
        x.reconcile();
        due("reconciled", x.told(6), 6);
        x.begin(TAKE, FREE_ORDER);
        x.amount(1, 0, 0);
        x.shut();
        due("taken", x.told(6), 7);
        giveBackUntil(x, 290);
        due("full", x.giveBack(FREE, 1), FULL);
        due("an entry that no copy has", x.entry(289, 0), FULL);
        due("none", x.entry(290, 0), BAD);
    }
}
