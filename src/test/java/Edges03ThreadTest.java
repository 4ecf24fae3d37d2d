/** Each sentence of promise 3, thread, that names a boundary case. */
public final class Edges03ThreadTest {
    public static void main(String[] args) {
        Edges e = new Edges("Edges03ThreadTest");
        itsNumber(e);
        refusedIfPIsNoProcess(e);
        refusedIfItHasEnded(e);
        oneThatHasHadNoThreadYetHasNotEnded(e);
        refusedIfPriorityIsNot0To7(e);
        fullIfThereWereEight(e);
        refusedIsTestedBeforeFull(e);
        readyAtLevel1(e);
        e.end();
    }

    private static ExecutiveDesk withProcesses(int n) {
        ExecutiveDesk x = new ExecutiveDesk();
        for (int p = 0; p < n; p++) {
            x.process(0);
        }
        return x;
    }

    private static ExecutiveDesk withThreads(int n) {
        ExecutiveDesk x = withProcesses(2);
        for (int t = 0; t < n; t++) {
            x.thread(0, t);
        }
        return x;
    }

    /** Process 0 had this many threads, and all of them have ended; process 1 has had none. */
    private static ExecutiveDesk withEnded(int n) {
        ExecutiveDesk x = withThreads(n);
        for (int t = 0; t < n; t++) {
            x.exit();
        }
        return x;
    }

    private static void itsNumber(Edges e) {
        e.sentence("A new THREAD, READY: its number");
        e.each("thread", 0, 7, n -> withThreads(n).thread(1, 3), n -> n);
        e.sentence("Both are numbered as they are made, no number comes again");
        e.each("behind ended threads:", 0, 7, n -> withEnded(n).thread(1, 3), n -> n);
    }

    private static void refusedIfPIsNoProcess(Edges e) {
        e.sentence("REFUSED if p is no PROCESS");
        for (int made = 0; made <= 4; made++) {
            int n = made;
            e.inside("p of " + n + ":", 0, n - 1, () -> withProcesses(n), (x, p) -> x.thread(p, 3), p -> 0);
            e.inside("the process it has, of " + n + ":", 0, n - 1, () -> withProcesses(n), (x, p) -> x.thread(p, 3) + x.actor(0, 1), p -> p);
            e.outside("p of " + n + ":", 0, n - 1, () -> withProcesses(n), (x, p) -> x.thread(p, 3));
        }
    }

    private static void refusedIfItHasEnded(Edges e) {
        e.sentence("REFUSED if p is no PROCESS, or it has ENDED");
        for (int ended = 1; ended <= 7; ended++) {
            int n = ended;
            e.refused("its last thread of " + n + " has ended", ExecutiveDesk.REFUSED, () -> withEnded(n), x -> x.thread(0, 3));
        }
        e.sentence("A PROCESS has ENDED when its last THREAD has");
        ExecutiveDesk x = withThreads(2);
        x.exit();
        e.due("one of two has ended", 2, x.thread(0, 3));
        ExecutiveDesk y = withThreads(2);
        y.create(0, 0, -1);
        y.await(0, -1, -1, 0, -1);
        y.exit();
        e.due("one has ended, the other one waits", 2, y.thread(0, 3));
    }

    private static void oneThatHasHadNoThreadYetHasNotEnded(Edges e) {
        e.sentence("(one that has had no THREAD yet has not)");
        e.taken("nothing has ended", 0, () -> withProcesses(2), x -> x.thread(1, 0));
        e.taken("another one has ended", 1, () -> withEnded(1), x -> x.thread(1, 0));
    }

    private static void refusedIfPriorityIsNot0To7(Edges e) {
        e.sentence("or priority not 0..7");
        e.inside("priority", 0, 7, () -> withProcesses(1), (x, n) -> x.thread(0, n), n -> 0);
        e.inside("the priority it has:", 0, 7, () -> withProcesses(1), (x, n) -> x.thread(0, n) + x.actor(0, 2), n -> n);
        e.outside("priority", 0, 7, () -> withProcesses(1), (x, n) -> x.thread(0, n));
        e.outside("priority, behind seven threads", 0, 7, () -> withThreads(7), (x, n) -> x.thread(0, n));
    }

    private static void fullIfThereWereEight(Edges e) {
        e.sentence("FULL if there were eight");
        e.taken("the eighth", 7, () -> withThreads(7), x -> x.thread(0, 7));
        e.refused("a ninth", ExecutiveDesk.FULL, () -> withThreads(8), x -> x.thread(0, 7));
        e.refused("a ninth in another process", ExecutiveDesk.FULL, () -> withThreads(8), x -> x.thread(1, 0));
        e.refused("there were eight, all have ended", ExecutiveDesk.FULL, () -> withEnded(8), x -> x.thread(1, 0));
    }

    private static void refusedIsTestedBeforeFull(Edges e) {
        e.sentence("tested in the order: .. REFUSED, DENIED, then what else is named");
        e.outside("p, behind eight threads", 0, 1, () -> withThreads(8), (x, p) -> x.thread(p, 3));
        e.outside("priority, behind eight threads", 0, 7, () -> withThreads(8), (x, n) -> x.thread(0, n));
        e.refused("an ended process, behind eight threads", ExecutiveDesk.REFUSED, () -> withEnded(8), x -> x.thread(0, 3));
    }

    private static void readyAtLevel1(Edges e) {
        e.sentence("A new THREAD, READY");
        ExecutiveDesk x = withThreads(1);
        x.level(1);
        e.due("a greater priority at level 1", 1, x.thread(0, 7));
        e.due("it is ready", 1, x.actor(1, 0));
        e.due("the other one runs", 0, x.count(0));
        ExecutiveDesk y = withThreads(7);
        e.due("the same priority", 7, y.thread(0, 6));
        e.due("it is ready", 1, y.actor(7, 0));
        e.due("the one that ran runs", 6, y.count(0));
    }
}
