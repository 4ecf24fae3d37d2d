/** Each sentence of promise 17, actor, that names a boundary case. */
public final class Edges17ActorTest {
    public static void main(String[] args) {
        Edges e = new Edges("Edges17ActorTest");
        refusedForOthers(e);
        howItStands(e);
        itsProcess(e);
        itsPriority(e);
        theResultOfItsLatestWait(e);
        howManyCalls(e);
        theLatestOfThese(e);
        whatItUsedOfItsQuantum(e);
        theTicksThatItsWaitLastsStill(e);
        e.end();
    }

    private static ExecutiveDesk withThreads(int n) {
        ExecutiveDesk x = Checks.desk();
        for (int t = 0; t < n; t++) {
            x.thread(0, t);
        }
        return x;
    }

    private static void refusedForOthers(Edges e) {
        e.sentence("or if it does not WAIT. REFUSED for others");
        for (int made = 0; made <= 8; made++) {
            int n = made;
            e.outside("t of " + n + ":", 0, n - 1, () -> withThreads(n), (x, t) -> x.actor(t, 1));
            e.inside("t of " + n + ":", 0, n - 1, () -> withThreads(n), (x, t) -> x.actor(t, 1), t -> 0);
        }
        for (int n = 0; n < 8; n++) {
            int t = n;
            e.outside("what of " + t + ":", 0, 8, () -> withThreads(8), (x, what) -> x.actor(t, what));
        }
        ExecutiveDesk x = withThreads(1);
        int[] want = {0, 0, 0, ExecutiveDesk.WAITING, 0, 0, 0, 0, -1};
        for (int what = 0; what <= 8; what++) {
            e.due("what " + what, want[what], x.actor(0, what));
        }
        e.outside("what of one that has ended:", 0, 8, () -> {
            ExecutiveDesk y = withThreads(1);
            y.exit();
            return y;
        }, (y, what) -> y.actor(0, what));
    }

    private static void howItStands(Edges e) {
        e.sentence("Of THREAD t what 0: 0 RUNNING, 1 READY, 2 WAITS, 3 ENDED");
        ExecutiveDesk x = Checks.desk(4, 3, 2, 1);
        x.create(0, 0, -1);
        x.exit();
        x.await(0, -1, -1, 0, -1);
        e.due("running", 0, x.actor(2, 0));
        e.due("ready", 1, x.actor(3, 0));
        e.due("waits", 2, x.actor(1, 0));
        e.due("ended", 3, x.actor(0, 0));
    }

    private static void itsProcess(Edges e) {
        e.sentence("1: its PROCESS");
        ExecutiveDesk x = new ExecutiveDesk();
        for (int p = 0; p < 4; p++) {
            x.process(0);
        }
        for (int t = 0; t < 8; t++) {
            x.thread(3 - t % 4, 0);
            e.due("thread " + t, 3 - t % 4, x.actor(t, 1));
        }
    }

    private static void itsPriority(Edges e) {
        e.sentence("2: PRIORITY");
        ExecutiveDesk x = withThreads(8);
        for (int t = 0; t < 8; t++) {
            e.due("thread " + t, t, x.actor(t, 2));
        }
    }

    /** Thread 0 waited for three gates; what it waited for is set by thread 1. */
    private static int resultOfGate(int gate, int how) {
        ExecutiveDesk x = Checks.desk(3, 2);
        for (int h = 0; h < 3; h++) {
            x.create(1, how, -1);
        }
        x.set(gate, 0);
        x.await(0, 1, 2, how, -1);
        x.set(gate, 1);
        return x.actor(0, 3);
    }

    private static void theResultOfItsLatestWait(Edges e) {
        e.sentence("3: the RESULT of its latest wait that went on (WAITING while it does, or if there was none)");
        e.each("ANY, place", 0, 2, gate -> resultOfGate(gate, 0), gate -> gate);
        e.each("ALL, place", 0, 2, gate -> resultOfGate(gate, 1), gate -> 0);
        ExecutiveDesk x = Checks.desk(3);
        x.create(1, 1, -1);
        e.due("there was none", ExecutiveDesk.WAITING, x.actor(0, 3));
        x.await(0, -1, -1, 0, 5);
        e.due("one that was satisfied at once did not go on", ExecutiveDesk.WAITING, x.actor(0, 3));
        x.await(0, -1, -1, 0, 0);
        e.due("nor did one of no ticks", ExecutiveDesk.WAITING, x.actor(0, 3));
        x.await(0, -1, -1, 0, 1);
        e.due("while it does", ExecutiveDesk.WAITING, x.actor(0, 3));
        x.tick(1);
        e.due("its time is over", ExecutiveDesk.TIMEOUT, x.actor(0, 3));
        x.set(0, 1);
        x.await(0, -1, -1, 0, 1);
        e.due("it is the latest that went on still", ExecutiveDesk.TIMEOUT, x.actor(0, 3));
        x.call(0, 1);
        x.await(0, -1, -1, 2, 1);
        e.due("nor did one go on that was alerted at once", ExecutiveDesk.TIMEOUT, x.actor(0, 3));
        x.await(0, -1, -1, 2, -1);
        e.due("while the next one does", ExecutiveDesk.WAITING, x.actor(0, 3));
        x.call(0, 1);
        e.due("alerted", ExecutiveDesk.ALERTED, x.actor(0, 3));
        x.exit();
        e.due("it has ended", ExecutiveDesk.ALERTED, x.actor(0, 3));
    }

    private static void howManyCalls(Edges e) {
        e.sentence("4: how many CALLS are to be delivered; 5: how many were");
        ExecutiveDesk x = Checks.desk(3);
        x.create(0, 0, -1);
        e.due("none is to be", 0, x.actor(0, 4));
        e.due("none was", 0, x.actor(0, 5));
        for (int n = 1; n <= 4; n++) {
            x.call(0, n);
            e.due("are to be", n, x.actor(0, 4));
            e.due("were", 0, x.actor(0, 5));
        }
        x.await(0, -1, -1, 2, 0);
        e.due("none is to be any more", 0, x.actor(0, 4));
        e.due("four were", 4, x.actor(0, 5));
        x.call(0, 5);
        x.await(0, -1, -1, 2, 0);
        e.due("five were", 5, x.actor(0, 5));
    }

    private static void theLatestOfThese(Edges e) {
        e.sentence("6: the latest of these (0 if none)");
        ExecutiveDesk x = Checks.desk(3);
        x.create(0, 0, -1);
        e.due("none", 0, x.actor(0, 6));
        x.call(0, 99);
        x.call(0, 1);
        e.due("none was delivered", 0, x.actor(0, 6));
        x.await(0, -1, -1, 2, 0);
        e.due("the second", 1, x.actor(0, 6));
        x.call(0, 99);
        e.due("the second still", 1, x.actor(0, 6));
        x.await(0, -1, -1, 2, 0);
        e.due("the third", 99, x.actor(0, 6));
    }

    private static void whatItUsedOfItsQuantum(Edges e) {
        e.sentence("7: what it used of its QUANTUM");
        ExecutiveDesk x = Checks.desk(3, 2);
        int[] want = {0, 1, 2, 0, 1};
        for (int n = 0; n < 5; n++) {
            e.due("behind " + n + " ticks", want[n], x.actor(0, 7));
            e.due("one that did not run", 0, x.actor(1, 7));
            x.tick(1);
        }
    }

    private static void theTicksThatItsWaitLastsStill(Edges e) {
        e.sentence("8: the TICKS that its wait lasts still, -1 if without end, or if it does not WAIT");
        ExecutiveDesk x = Checks.desk(3, 2);
        x.create(0, 0, -1);
        e.due("it runs", -1, x.actor(0, 8));
        e.due("it is ready", -1, x.actor(1, 8));
        x.await(0, -1, -1, 0, 99);
        for (int left = 99; left >= 1; left--) {
            e.due("it waits", left, x.actor(0, 8));
            x.tick(1);
        }
        e.due("it does not any more", -1, x.actor(0, 8));
        x.await(0, -1, -1, 0, -1);
        e.due("without end", -1, x.actor(0, 8));
        x.tick(1);
        e.due("without end still", -1, x.actor(0, 8));
        x.set(0, 1);
        e.due("satisfied", -1, x.actor(0, 8));
        x.exit();
        e.due("it has ended", -1, x.actor(0, 8));
    }
}
