/** Each sentence of the section 'Terms' that says what a desk's parts are and how far they go. */
public final class EdgesTermsPartsTest {
    private static final int ASK = 1;
    private static final int CHANGE = 2;
    private static final int WAIT = 4;

    public static void main(String[] args) {
        Edges e = new Edges("EdgesTermsPartsTest");
        processesHaveHandles(e);
        aHandleNamesAnObject(e);
        rightsAreASum(e);
        threadsHaveAProcessAndAPriority(e);
        objectsHaveAType(e);
        objectsHaveAName(e);
        objectsHaveAList(e);
        objectsHaveHandlesAndPointers(e);
        signaledAsSaid(e);
        takingOne(e);
        aRowForEachPriority(e);
        signaledOnceMore(e);
        aRowOfCalls(e);
        theWaitEnds(e);
        itLeavesTheRow(e);
        cancellingOneThatIsPending(e);
        refusedChangesNothing(e);
        howATransferStands(e);
        e.end();
    }

    private static void processesHaveHandles(Edges e) {
        e.sentence("PROCESSES 0..3 have GROUPS (a set of 0..7, as a sum of 2^group) and HANDLES 0..7");
        ExecutiveDesk x = Checks.desk(0);
        x.create(0, 0, 9);
        for (int p = 1; p <= 3; p++) {
            e.due("a process", p, x.process(1 << p));
            x.thread(p, p);
            for (int h = 0; h <= 7; h++) {
                e.due("process " + p + ", a handle", h, x.open(9, 7));
            }
            e.due("process " + p + ", a ninth one", ExecutiveDesk.FULL, x.open(9, 7));
            for (int h = 0; h <= 7; h++) {
                e.due("process " + p + ", handle " + h, 0, x.handle(p, h, 0));
            }
            e.due("process " + p + ", no handle 8", ExecutiveDesk.REFUSED, x.handle(p, 8, 0));
        }
        e.due("handles of all processes", 25, x.object(0, 2));
    }

    private static void aHandleNamesAnObject(Edges e) {
        e.sentence("a HANDLE that is in use names an OBJECT and has RIGHTS");
        ExecutiveDesk x = Checks.desk(3);
        x.create(0, 0, -1);
        x.create(1, 0, 4);
        x.close(0);
        x.open(4, 5);
        e.due("one that was closed names another one", 1, x.handle(0, 0, 0));
        e.due("and has other rights", 5, x.handle(0, 0, 1));
        e.due("two handles may name the same", 1, x.handle(0, 1, 0));
        e.due("each with its own rights", 7, x.handle(0, 1, 1));
        e.due("one that is not in use", ExecutiveDesk.REFUSED, x.handle(0, 2, 1));
    }

    /** Handles 0 and 1, a gate and a device, are of all rights; 2 and 3 are to the same, with these. */
    private static ExecutiveDesk opened(int rights) {
        ExecutiveDesk x = Checks.desk(3);
        x.create(1, 1, 0);
        x.create(5, 0, 1);
        x.open(0, rights);
        x.open(1, rights);
        return x;
    }

    private static void rightsAreASum(Edges e) {
        e.sentence("RIGHTS: a sum of 1 ASK, 2 CHANGE, 4 WAIT");
        for (int n = 1; n <= 7; n++) {
            int rights = n;
            int asked = (rights & ASK) != 0 ? 0 : ExecutiveDesk.DENIED;
            int changed = (rights & CHANGE) != 0 ? 1 : ExecutiveDesk.DENIED;
            int waited = (rights & WAIT) != 0 ? 0 : ExecutiveDesk.DENIED;
            e.taken("to ask, with " + n, asked, () -> opened(rights), x -> x.transfer(3, 0, 9, -1));
            e.taken("to change, with " + n, changed, () -> opened(rights), x -> x.set(2, 1));
            e.taken("to wait, with " + n, waited, () -> opened(rights), x -> x.await(2, -1, -1, 0, 0));
        }
    }

    private static void threadsHaveAProcessAndAPriority(Edges e) {
        e.sentence("THREADS 0..7 have a PROCESS and a PRIORITY 0..7");
        ExecutiveDesk x = Checks.desk();
        x.process(0);
        x.process(0);
        x.process(0);
        for (int t = 0; t <= 7; t++) {
            e.due("a thread", t, x.thread(t % 4, 7 - t));
        }
        for (int t = 0; t <= 7; t++) {
            e.due("its process", t % 4, x.actor(t, 1));
            e.due("its priority", 7 - t, x.actor(t, 2));
        }
        e.due("no thread 8", ExecutiveDesk.REFUSED, x.actor(8, 1));
    }

    private static void objectsHaveAType(Edges e) {
        e.sentence("have a TYPE: 0 NOTE, 1 GATE, 2 MUTANT, 3 SEMAPHORE, 4 TIMER, 5 DEVICE");
        ExecutiveDesk x = Checks.desk(3);
        for (int type = 0; type <= 5; type++) {
            x.create(type, 0, -1);
            e.due("its type", type, x.object(type, 0));
        }
        int[] taken = {1, 1, 1, 1, 99, 0};
        int[] beyond = {2, 2, 0, 10, 100, 0};
        for (int type = 0; type <= 4; type++) {
            e.due("type " + type + " is not set to", ExecutiveDesk.REFUSED, x.set(type, beyond[type]));
            int want = type == 2 ? ExecutiveDesk.NOT_OWNER : 0;
            e.due("type " + type + " is set to", want, x.set(type, taken[type]));
        }
        e.due("a device is not set", ExecutiveDesk.REFUSED, x.set(5, 1));
        e.due("a device has transfers", 0, x.transfer(5, 0, 1, -1));
        for (int type = 0; type <= 4; type++) {
            e.due("type " + type + " has none", ExecutiveDesk.REFUSED, x.transfer(type, 0, 1, -1));
        }
    }

    private static void objectsHaveAName(Edges e) {
        e.sentence("a NAME 0..15 or none");
        e.each("a name", -1, 15, name -> {
            ExecutiveDesk x = Checks.desk(3);
            x.create(0, 0, name);
            return x.object(0, 1);
        }, name -> name);
        ExecutiveDesk x = Checks.desk(3);
        x.create(0, 0, -1);
        e.due("any number may have none", 1, x.create(0, 0, -1));
    }

    private static void objectsHaveAList(Edges e) {
        e.sentence("a LIST of at most 4 rules (deny or allow, a group, rights)");
        ExecutiveDesk x = Checks.desk(3);
        x.create(0, 0, 0);
        x.create(1, 0, 1);
        for (int n = 1; n <= 4; n++) {
            e.due("one more", n, x.rule(0, n % 2, n, n));
            e.due("of the other object none", 0, x.object(1, 7));
        }
        e.due("a fifth one", ExecutiveDesk.FULL, x.rule(0, 0, 0, 7));
        e.due("the other object has its own", 1, x.rule(1, 0, 0, 7));
    }

    private static void objectsHaveHandlesAndPointers(Edges e) {
        e.sentence("HANDLES, how many there are to it; and POINTERS");
        ExecutiveDesk x = Checks.desk(3, 2);
        x.create(5, 0, 0);
        x.create(1, 0, 1);
        x.open(1, 7);
        x.transfer(0, 0, 9, 1);
        x.transfer(0, 0, 9, -1);
        x.await(1, -1, -1, 0, -1);
        x.level(1);
        x.interrupt(0, false);
        e.due("handles of the device", 1, x.object(0, 2));
        e.due("pointers of the device: two transfers, one interrupt", 3, x.object(0, 3));
        e.due("handles of the gate", 2, x.object(1, 2));
        e.due("pointers of the gate: one transfer, one wait", 2, x.object(1, 3));
        x.level(0);
        e.due("pointers of the device: one transfer", 1, x.object(0, 3));
        e.due("pointers of the gate: none", 0, x.object(1, 3));
        e.due("handles of the gate, as before", 2, x.object(1, 2));
    }

    private static void signaledAsSaid(Edges e) {
        e.sentence("SIGNALED are: a NOTE, GATE or TIMER as said");
        for (int signaled = 0; signaled <= 1; signaled++) {
            int want = signaled == 1 ? 0 : ExecutiveDesk.TIMEOUT;
            for (int type = 0; type <= 1; type++) {
                ExecutiveDesk x = Checks.desk(3);
                x.create(type, signaled, -1);
                e.due("type " + type + " made as " + signaled, want, x.await(0, -1, -1, 0, 0));
                ExecutiveDesk y = Checks.desk(3);
                y.create(type, 1 - signaled, -1);
                y.set(0, signaled);
                e.due("type " + type + " set to " + signaled, want, y.await(0, -1, -1, 0, 0));
            }
        }
        ExecutiveDesk x = Checks.desk(3);
        x.create(4, 0, -1);
        x.set(0, 2);
        x.tick(1);
        e.due("a timer that is not due yet", ExecutiveDesk.TIMEOUT, x.await(0, -1, -1, 0, 0));
        x.tick(1);
        e.due("a timer that was due", 0, x.await(0, -1, -1, 0, 0));
        x.set(0, 0);
        e.due("a timer that was set again", ExecutiveDesk.TIMEOUT, x.await(0, -1, -1, 0, 0));
    }

    private static void takingOne(Edges e) {
        e.sentence("TAKING one: a GATE is not SIGNALED any more; the COUNT is one less");
        int[] first = {1, 1, 1, 4};
        int[] left = {1, 0, 2, 3};
        for (int type = 0; type <= 3; type++) {
            ExecutiveDesk x = Checks.desk(3);
            x.create(type, first[type], -1);
            x.await(0, -1, -1, 0, 0);
            e.due("type " + type + ", taken at once", left[type], x.object(0, 4));
        }
    }

    private static void aRowForEachPriority(Edges e) {
        e.sentence("SCHEDULING: THREADS that are READY stand in a row for each PRIORITY");
        ExecutiveDesk x = Checks.desk(7, 1, 5, 1, 5, 3, 5, 3);
        int[] order = {0, 2, 4, 6, 5, 7, 1, 3};
        for (int t : order) {
            e.due("the next one of the rows", t, x.exit());
        }
    }

    private static void signaledOnceMore(Edges e) {
        e.sentence("whenever an OBJECT becomes SIGNALED, or is SIGNALED once more");
        ExecutiveDesk x = Checks.desk(3, 2);
        x.create(3, 1, -1);
        x.create(0, 0, -1);
        x.await(0, 1, -1, 1, -1);
        e.due("a count of 1", 1, x.set(0, 2));
        e.due("the wait for all goes on", 2, x.actor(0, 0));
        e.due("nothing is taken", 3, x.object(0, 4));
        x.set(1, 1);
        e.due("one is taken", 2, x.object(0, 4));
        e.due("the wait is over", 0, x.actor(0, 3));
        ExecutiveDesk y = Checks.desk(3, 2, 1);
        y.create(3, 0, -1);
        y.await(0, -1, -1, 0, -1);
        y.await(0, -1, -1, 0, -1);
        y.level(1);
        y.set(0, 1);
        e.due("the first one has what it needs", 0, y.actor(0, 3));
        e.due("the second one waits", 2, y.actor(1, 0));
        y.set(0, 1);
        e.due("once more: the second one", 0, y.actor(1, 3));
    }

    private static void aRowOfCalls(Edges e) {
        e.sentence("CALLS: each THREAD has a row of at most 4 (1..99) that are to be delivered");
        ExecutiveDesk x = Checks.desk(3, 2, 1);
        int[] calls = {1, 2, 98, 99};
        for (int t = 0; t <= 2; t++) {
            for (int n = 1; n <= 4; n++) {
                e.due("one more for thread " + t, n, x.call(t, calls[n - 1]));
            }
            e.due("a fifth one for thread " + t, ExecutiveDesk.FULL, x.call(t, 1));
            e.due("to be delivered", 4, x.actor(t, 4));
            e.due("none was", 0, x.actor(t, 5));
        }
    }

    private static void theWaitEnds(Edges e) {
        e.sentence("the wait ends, its RESULT is ALERTED, it is READY");
        ExecutiveDesk x = Checks.desk(3, 4);
        x.create(0, 0, -1);
        x.tick(1);
        x.await(0, -1, -1, 0, 1);
        e.due("thread 0 runs", 0, x.count(0));
        x.await(0, -1, -1, 2, 9);
        x.tick(1);
        e.due("thread 1 runs", 1, x.count(0));
        e.due("a call", 0, x.call(0, 5));
        e.due("its result", ExecutiveDesk.ALERTED, x.actor(0, 3));
        e.due("it is ready", 1, x.actor(0, 0));
        e.due("its wait lasts no more", -1, x.actor(0, 8));
        e.due("no pointer is left", 0, x.object(0, 3));
        x.set(0, 1);
        e.due("its result stays", ExecutiveDesk.ALERTED, x.actor(0, 3));
        x.tick(9);
        e.due("and when its time would be over", ExecutiveDesk.ALERTED, x.actor(0, 3));
    }

    private static void itLeavesTheRow(Edges e) {
        e.sentence("When the first one of the row is FINISHED, well or not, it leaves it");
        for (int n = 0; n <= 1; n++) {
            ExecutiveDesk x = Checks.desk(3);
            x.create(5, 0, -1);
            x.transfer(0, 0, 9, -1);
            x.transfer(0, 0, 9, -1);
            x.interrupt(0, n == 1);
            e.due("one is left", 1, x.object(0, 4));
            e.due("the other one is the first", 1, x.object(0, 5));
            x.interrupt(0, n == 1);
            e.due("none is left", 0, x.object(0, 4));
            e.due("none is the first", -1, x.object(0, 5));
        }
    }

    private static void cancellingOneThatIsPending(Edges e) {
        e.sentence("CANCELLING one that is PENDING: if it is the first of its row it is to be CANCELLED");
        ExecutiveDesk x = Checks.desk(3);
        x.create(5, 0, -1);
        x.create(5, 0, -1);
        x.transfer(0, 0, 9, -1);
        x.transfer(0, 0, 9, -1);
        x.transfer(1, 0, 9, -1);
        e.due("the second one of a row", 1, x.cancel(1));
        e.due("the first one of a row", 0, x.cancel(0));
        e.due("the first one of another row", 0, x.cancel(2));
        e.due("once more", 0, x.cancel(2));
        e.due("it is pending still", ExecutiveDesk.PENDING, x.io(2, 0));
        e.due("one is over", 1, x.count(8));
    }

    private static void refusedChangesNothing(Edges e) {
        e.sentence("In each call what is refused (answers below 0) changes nothing, and is tested in the order");
        e.refused("create", ExecutiveDesk.TAKEN, () -> opened(7), x -> x.create(0, 0, 0));
        e.refused("open", ExecutiveDesk.NONE, () -> opened(7), x -> x.open(2, 7));
        e.refused("set", ExecutiveDesk.DENIED, () -> opened(4), x -> x.set(2, 0));
        e.refused("await", ExecutiveDesk.DENIED, () -> opened(3), x -> x.await(2, -1, -1, 0, 0));
        e.refused("transfer", ExecutiveDesk.DENIED, () -> opened(6), x -> x.transfer(3, 0, 9, -1));
        e.refused("thread", ExecutiveDesk.REFUSED, () -> opened(7), x -> x.thread(1, 7));
    }

    private static void howATransferStands(Edges e) {
        e.sentence("The constants: `PENDING = 0, WELL = 1, TOO_LONG = 2, BEYOND = 3, BROKEN = 4, CANCELLED = 5`: How a TRANSFER stands");
        ExecutiveDesk x = Checks.desk(3);
        x.create(5, 3, -1);
        for (int i = 0; i <= 3; i++) {
            x.transfer(0, 0, 9, -1);
        }
        x.interrupt(0, true);
        x.interrupt(0, false);
        x.cancel(3);
        e.due("well", 1, x.io(0, 0));
        e.due("broken", 4, x.io(1, 0));
        e.due("pending", 0, x.io(2, 0));
        e.due("cancelled", 5, x.io(3, 0));
        x.transfer(0, 0, 65, -1);
        e.due("too long", 2, x.io(0, 0));
        x.transfer(0, 128, 9, -1);
        e.due("beyond", 3, x.io(0, 0));
    }
}
