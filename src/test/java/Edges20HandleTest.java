/** Each sentence of promise 20, handle, that names a boundary case. */
public final class Edges20HandleTest {
    public static void main(String[] args) {
        Edges e = new Edges("Edges20HandleTest");
        refusedIfItIsNotInUse(e);
        refusedIfThereIsNoSuchProcess(e);
        refusedForOthers(e);
        theObject(e);
        theRights(e);
        e.end();
    }

    /** Process 0 has this many handles, each to an object of its own. */
    private static ExecutiveDesk withHandles(int n) {
        ExecutiveDesk x = Checks.desk(3);
        for (int h = 0; h < n; h++) {
            x.create(0, 0, h);
        }
        return x;
    }

    private static ExecutiveDesk withProcesses(int n) {
        ExecutiveDesk x = new ExecutiveDesk();
        for (int p = 0; p < n; p++) {
            x.process(0);
            x.thread(p, p);
            x.create(0, 0, p);
        }
        return x;
    }

    private static void refusedIfItIsNotInUse(Edges e) {
        e.sentence("REFUSED if it is not in use");
        for (int made = 0; made <= 8; made++) {
            int n = made;
            e.outside("h of " + n + ":", 0, n - 1, () -> withHandles(n), (x, h) -> x.handle(0, h, 0));
            e.outside("rights of h of " + n + ":", 0, n - 1, () -> withHandles(n), (x, h) -> x.handle(0, h, 1));
            e.inside("h of " + n + ":", 0, n - 1, () -> withHandles(n), (x, h) -> x.handle(0, h, 0), h -> h);
        }
        for (int n = 0; n < 8; n++) {
            int h = n;
            e.refused("it was closed: " + h, ExecutiveDesk.REFUSED, () -> {
                ExecutiveDesk x = withHandles(8);
                x.close(h);
                return x;
            }, x -> x.handle(0, h, 1));
        }
        e.refused("its process has ended", ExecutiveDesk.REFUSED, () -> {
            ExecutiveDesk x = withHandles(1);
            x.exit();
            return x;
        }, x -> x.handle(0, 0, 0));
    }

    private static void refusedIfThereIsNoSuchProcess(Edges e) {
        e.sentence("Of HANDLE h of PROCESS p .. REFUSED if it is not in use");
        for (int made = 0; made <= 4; made++) {
            int n = made;
            e.outside("p of " + n + ":", 0, n - 1, () -> withProcesses(n), (x, p) -> x.handle(p, 0, 0));
            e.inside("p of " + n + ":", 0, n - 1, () -> withProcesses(n), (x, p) -> x.handle(p, 0, 0), p -> p);
        }
    }

    private static void refusedForOthers(Edges e) {
        e.sentence("REFUSED if it is not in use, or for others");
        e.outside("what", 0, 1, () -> withHandles(1), (x, what) -> x.handle(0, 0, what));
        e.outside("what of the last one", 0, 1, () -> withHandles(8), (x, what) -> x.handle(0, 7, what));
        e.due("what 0", 7, withHandles(8).handle(0, 7, 0));
        e.due("what 1", 7, withHandles(8).handle(0, 7, 1));
    }

    private static void theObject(Edges e) {
        e.sentence("what 0: the OBJECT");
        ExecutiveDesk x = new ExecutiveDesk();
        for (int p = 0; p < 2; p++) {
            x.process(0);
            x.thread(p, p);
            for (int h = 0; h < 8; h++) {
                x.create(0, 0, -1);
                e.due("handle " + h + " of process " + p, 8 * p + h, x.handle(p, h, 0));
            }
        }
    }

    private static void theRights(Edges e) {
        e.sentence("1: the RIGHTS");
        ExecutiveDesk x = withHandles(1);
        for (int rights = 1; rights <= 7; rights++) {
            x.open(0, rights);
            e.due("rights", rights, x.handle(0, rights, 1));
        }
        e.due("its maker's", 7, x.handle(0, 0, 1));
        x.close(7);
        x.open(0, 1);
        e.due("a new one under an old number", 1, x.handle(0, 7, 1));
    }
}
