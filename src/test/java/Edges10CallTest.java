/** Each sentence of promise 10, call, that names a boundary case. */
public final class Edges10CallTest {
    public static void main(String[] args) {
        Edges e = new Edges("Edges10CallTest");
        howManyItHasThen(e);
        zeroIfItWasAlertedByThat(e);
        refusedIfThereIsNoSuchThread(e);
        refusedIfItHasEnded(e);
        refusedIfNIsNot1To99(e);
        fullIfItHas4(e);
        refusedIsTestedBeforeFull(e);
        allItsCallsAreDeliveredInOrder(e);
        nobodyNeedsToRun(e);
        e.end();
    }

    private static ExecutiveDesk withThreads(int n) {
        ExecutiveDesk x = Checks.desk();
        for (int t = 0; t < n; t++) {
            x.thread(0, 7 - t);
        }
        return x;
    }

    /** Thread 0 runs, thread 1 is ready, thread 2 waits and may not be alerted; each has this many calls. */
    private static ExecutiveDesk withCalls(int n) {
        ExecutiveDesk x = Checks.desk(3, 2, 4);
        x.create(0, 0, -1);
        x.await(0, -1, -1, 0, -1);
        for (int t = 0; t < 3; t++) {
            for (int call = 1; call <= n; call++) {
                x.call(t, call);
            }
        }
        return x;
    }

    /** Thread 0 waits, as said; thread 1 runs. */
    private static ExecutiveDesk oneThatWaits(int how, int level) {
        ExecutiveDesk x = Checks.desk(3, 2);
        x.create(0, 0, -1);
        x.await(0, -1, -1, how, -1);
        x.level(level);
        return x;
    }

    private static void howManyItHasThen(Edges e) {
        e.sentence("A CALL for THREAD t: how many it has then");
        for (int n = 0; n < 3; n++) {
            int t = n;
            e.each("thread " + t + ", behind", 0, 3, calls -> withCalls(calls).call(t, 9), calls -> calls + 1);
        }
    }

    private static void zeroIfItWasAlertedByThat(Edges e) {
        e.sentence("(0 if it was ALERTED by that)");
        for (int how = 0; how <= 3; how++) {
            boolean mayBe = how >= 2;
            e.due("it waits, how " + how, mayBe ? 0 : 1, oneThatWaits(how, 0).call(0, 1));
            e.due("it waits, level 1, how " + how, 1, oneThatWaits(how, 1).call(0, 1));
        }
        ExecutiveDesk x = oneThatWaits(2, 0);
        x.call(0, 99);
        e.due("ALERTED", ExecutiveDesk.ALERTED, x.actor(0, 3));
        e.due("it runs", 0, x.count(0));
        e.due("it does not wait any more", 1, x.call(0, 98));
        e.due("one was delivered", 1, x.actor(0, 5));
    }

    private static void refusedIfThereIsNoSuchThread(Edges e) {
        e.sentence("REFUSED if there is no such THREAD");
        for (int made = 0; made <= 8; made++) {
            int n = made;
            e.inside("t of " + n + ":", 0, n - 1, () -> withThreads(n), (x, t) -> x.call(t, 1), t -> 1);
            e.outside("t of " + n + ":", 0, n - 1, () -> withThreads(n), (x, t) -> x.call(t, 1));
        }
    }

    private static void refusedIfItHasEnded(Edges e) {
        e.sentence("REFUSED if there is no such THREAD, it has ENDED");
        for (int ended = 0; ended < 8; ended++) {
            int t = ended;
            e.refused("thread " + t, ExecutiveDesk.REFUSED, () -> {
                ExecutiveDesk x = withThreads(8);
                for (int n = 0; n <= t; n++) {
                    x.exit();
                }
                return x;
            }, x -> x.call(t, 1));
        }
        ExecutiveDesk x = withThreads(2);
        x.exit();
        e.due("the other one has not", 1, x.call(1, 1));
    }

    private static void refusedIfNIsNot1To99(Edges e) {
        e.sentence("or n is not 1..99");
        e.inside("n", 1, 99, () -> withThreads(1), (x, n) -> x.call(0, n), n -> 1);
        e.outside("n", 1, 99, () -> withThreads(1), (x, n) -> x.call(0, n));
        e.outside("n, to one that may be alerted", 1, 99, () -> oneThatWaits(2, 0), (x, n) -> x.call(0, n));
        e.inside("what is delivered:", 1, 99, () -> oneThatWaits(2, 0), (x, n) -> x.call(0, n) + x.actor(0, 6), n -> n);
    }

    private static void fullIfItHas4(Edges e) {
        e.sentence("FULL if it has 4");
        for (int n = 0; n < 3; n++) {
            int t = n;
            e.taken("the fourth, thread " + t, 4, () -> withCalls(3), x -> x.call(t, 99));
            e.refused("a fifth, thread " + t, ExecutiveDesk.FULL, () -> withCalls(4), x -> x.call(t, 99));
        }
        ExecutiveDesk x = oneThatWaits(2, 1);
        for (int n = 1; n <= 4; n++) {
            e.due("one that may be alerted, at level 1", n, x.call(0, n));
        }
        e.due("a fifth", ExecutiveDesk.FULL, x.call(0, 5));
        x.level(0);
        e.due("four were delivered", 4, x.actor(0, 5));
        e.due("the latest is the fourth", 4, x.actor(0, 6));
        e.due("its row is empty", 1, x.call(0, 6));
    }

    private static void refusedIsTestedBeforeFull(Edges e) {
        e.sentence("tested in the order: .. REFUSED, DENIED, then what else is named");
        e.outside("n, behind four", 1, 99, () -> withCalls(4), (x, n) -> x.call(0, n));
        e.refused("a thread that ended with four", ExecutiveDesk.REFUSED, () -> {
            ExecutiveDesk x = withCalls(4);
            x.exit();
            return x;
        }, x -> x.call(0, 1));
    }

    private static void allItsCallsAreDeliveredInOrder(Edges e) {
        e.sentence("all its CALLS are delivered, in order");
        for (int calls = 1; calls <= 4; calls++) {
            ExecutiveDesk x = withCalls(calls);
            x.await(0, -1, -1, 2, -1);
            e.due("how many of " + calls, calls, x.actor(0, 5));
            e.due("the latest of " + calls, calls, x.actor(0, 6));
            e.due("left", 0, x.actor(0, 4));
        }
        ExecutiveDesk x = Checks.desk(3);
        x.create(0, 0, -1);
        for (int n = 1; n <= 100; n++) {
            x.call(0, 1 + n % 99);
            x.call(0, 1 + (n + 1) % 99);
            x.await(0, -1, -1, 2, -1);
        }
        e.due("a hundred times two", 200, x.actor(0, 5));
    }

    private static void nobodyNeedsToRun(Edges e) {
        e.sentence("NOBODY (if a THREAD makes it)");
        ExecutiveDesk x = Checks.desk(3);
        x.create(0, 0, -1);
        x.await(0, -1, -1, 0, -1);
        e.due("nobody runs", -1, x.count(0));
        e.due("a call", 1, x.call(0, 1));
    }
}
