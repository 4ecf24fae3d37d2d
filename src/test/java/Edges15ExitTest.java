/** Each sentence of promise 15, exit, that names a boundary case. */
public final class Edges15ExitTest {
    public static void main(String[] args) {
        Edges e = new Edges("Edges15ExitTest");
        e.needsAThread(x -> x.exit());
        high(e);
        itsNumber(e);
        nothingToGiveUp(e);
        mutants(e);
        transfers(e);
        itsCallsAreGone(e);
        theLastOfItsProcess(e);
        notTheLast(e);
        e.end();
    }

    /** A desk whose thread 0 has two of all that it could give up, at this level. */
    private static ExecutiveDesk rich(int level) {
        ExecutiveDesk x = Checks.desk(3, 2);
        x.create(2, 1, 0);
        x.create(2, 1, 1);
        x.create(5, 0, 2);
        x.transfer(2, 0, 9, -1);
        x.transfer(2, 0, 9, -1);
        x.call(0, 1);
        x.call(0, 2);
        x.level(level);
        return x;
    }

    private static void high(Edges e) {
        e.sentence("A THREAD ends (HIGH)");
        e.refused("at level 1", ExecutiveDesk.HIGH, () -> rich(1), x -> x.exit());
        e.taken("at level 0", 0, () -> rich(0), x -> x.exit());
        ExecutiveDesk x = rich(1);
        x.exit();
        x.level(0);
        e.due("level 0 again", 0, x.exit());
    }

    private static void itsNumber(Edges e) {
        e.sentence("A THREAD ends (HIGH): its number");
        ExecutiveDesk x = Checks.desk(0, 1, 2, 3, 4, 5, 6, 7);
        for (int t = 7; t >= 0; t--) {
            e.due("thread " + t, t, x.exit());
            e.due("it has ended", 3, x.actor(t, 0));
            e.due("the next one runs", t - 1, x.count(0));
        }
        e.due("nobody is left", ExecutiveDesk.NOBODY, x.exit());
        e.due("threads", 8, x.count(4));
    }

    private static void nothingToGiveUp(Edges e) {
        e.sentence("A THREAD ends (HIGH): its number");
        ExecutiveDesk x = Checks.desk(3);
        e.due("the only one, with nothing at all", 0, x.exit());
        e.due("nobody runs", -1, x.count(0));
        e.due("none is over", 0, x.count(8));
        e.due("processes", 1, x.count(3));
    }

    private static void mutants(Edges e) {
        e.sentence("MUTANTS that it has are ABANDONED, and nobody has them, by numbers");
        for (int times = 0; times <= 9; times++) {
            ExecutiveDesk x = Checks.desk(3, 2);
            x.create(2, 0, -1);
            for (int n = 0; n < times; n++) {
                x.await(0, -1, -1, 0, 0);
            }
            x.exit();
            e.due("had " + times + ": abandoned", times == 0 ? 0 : 1, x.object(0, 6));
            e.due("had " + times + ": nobody has it", -1, x.object(0, 5));
            e.due("had " + times + ": not at all", 0, x.object(0, 4));
        }
        ExecutiveDesk x = Checks.desk(3, 2);
        for (int h = 0; h < 8; h++) {
            x.create(2, 1, -1);
        }
        x.exit();
        for (int o = 0; o < 8; o++) {
            e.due("mutant " + o + " of eight", 1, x.object(o, 6));
        }
        ExecutiveDesk y = Checks.desk(3, 2);
        y.create(2, 1, -1);
        y.create(0, 0, -1);
        y.await(1, -1, -1, 0, 1);
        y.exit();
        e.due("another one's is not abandoned", 0, y.object(0, 6));
        byNumbers(e);
    }

    private static void byNumbers(Edges e) {
        ExecutiveDesk x = Checks.desk(3, 2);
        x.create(0, 0, -1);
        x.create(2, 0, -1);
        x.create(2, 0, -1);
        x.await(0, -1, -1, 0, 1);
        x.await(2, 1, -1, 1, 0);
        x.tick(1);
        x.await(2, 1, -1, 0, -1);
        x.exit();
        e.due("the less number, at the second place, was the first", 17, x.actor(0, 3));
    }

    private static void transfers(Edges e) {
        e.sentence("its TRANSFERS that are PENDING are CANCELLED, by numbers");
        for (int n = 0; n <= 8; n++) {
            ExecutiveDesk x = Checks.desk(3, 2);
            x.create(5, 0, -1);
            for (int i = 0; i < n; i++) {
                x.transfer(0, 0, 9, -1);
            }
            x.exit();
            e.due("of " + n + " that are over", Math.max(0, n - 1), x.count(8));
            e.due("of " + n + " that stand in the row", Math.min(1, n), x.object(0, 4));
            for (int i = 0; i < n; i++) {
                e.due("transfer " + i, i == 0 ? ExecutiveDesk.PENDING : ExecutiveDesk.CANCELLED, x.io(i, 0));
                e.due("to be cancelled: " + i, i == 0 ? 1 : 0, x.io(i, 5));
            }
        }
        ExecutiveDesk x = Checks.desk(3, 2);
        x.create(5, 0, -1);
        x.create(0, 0, -1);
        x.transfer(0, 0, 9, -1);
        x.transfer(0, 0, 9, -1);
        x.await(1, -1, -1, 0, -1);
        x.exit();
        e.due("another one's is not the first, but goes on", ExecutiveDesk.PENDING, x.io(1, 0));
        e.due("another one's is the first, and goes on", 0, x.io(0, 5));
    }

    private static void itsCallsAreGone(Edges e) {
        e.sentence("its CALLS are gone");
        for (int calls = 0; calls <= 4; calls++) {
            ExecutiveDesk x = Checks.desk(3, 2);
            for (int n = 1; n <= calls; n++) {
                x.call(0, n);
                x.call(1, n);
            }
            x.exit();
            e.due("of " + calls, 0, x.actor(0, 4));
            e.due("none of " + calls + " was delivered", 0, x.actor(0, 5));
            e.due("another one's are there", calls, x.actor(1, 4));
        }
    }

    private static void theLastOfItsProcess(Edges e) {
        e.sentence("if it was the last one of its PROCESS that has not ENDED all HANDLES of that are closed, by numbers");
        for (int n = 0; n <= 8; n++) {
            ExecutiveDesk x = Checks.desk(3);
            x.process(0);
            x.thread(1, 2);
            for (int h = 0; h < n; h++) {
                x.create(0, 0, h);
            }
            x.exit();
            e.due("objects of " + n, 0, x.count(5));
            for (int h = 0; h < 8; h++) {
                e.due("handle " + h, ExecutiveDesk.REFUSED, x.handle(0, h, 0));
            }
            e.due("their names are free", 0, x.create(0, 0, 0));
        }
        ExecutiveDesk x = Checks.desk(3);
        x.process(0);
        x.create(0, 0, 5);
        x.thread(1, 4);
        x.open(5, 7);
        x.exit();
        e.due("what another process has a handle to is there", 1, x.object(0, 2));
        e.due("the other process's handle is in use", 0, x.handle(0, 0, 0));
        ExecutiveDesk y = Checks.desk(3);
        y.create(5, 0, 5);
        y.transfer(0, 0, 9, -1);
        y.exit();
        e.due("what has a pointer is there", 1, y.object(0, 3));
        e.due("without handles", 0, y.object(0, 2));
        e.due("without a name", -1, y.object(0, 1));
    }

    private static void notTheLast(Edges e) {
        e.sentence("if it was the last one of its PROCESS that has not ENDED");
        ExecutiveDesk x = Checks.desk(4, 3, 2);
        x.create(0, 0, 0);
        x.create(0, 0, 1);
        x.exit();
        e.due("two are left", 2, x.count(5));
        x.await(0, -1, -1, 0, -1);
        x.exit();
        e.due("one is left, and waits", 2, x.count(5));
        e.due("its handle", 1, x.handle(0, 1, 0));
        ExecutiveDesk y = Checks.desk(4, 3);
        y.create(0, 0, 0);
        y.exit();
        y.exit();
        e.due("none is left", 0, y.count(5));
    }
}
