/** Each sentence of promise 6, close, that names a boundary case. */
public final class Edges06CloseTest {
    public static void main(String[] args) {
        Edges e = new Edges("Edges06CloseTest");
        e.needsAThread(x -> x.close(0));
        e.needsAThread(x -> x.close(-1));
        howManyItHasStill(e);
        refusedIfItIsNoHandle(e);
        noRightIsNeeded(e);
        withoutHandles(e);
        withoutBothItIsGone(e);
        e.end();
    }

    /** Process 0 has this many handles to object 0, of the name 3. */
    private static ExecutiveDesk withHandles(int n) {
        ExecutiveDesk x = Checks.desk(0);
        if (n > 0) {
            x.create(0, 0, 3);
        }
        for (int h = 1; h < n; h++) {
            x.open(3, h);
        }
        return x;
    }

    private static void howManyItHasStill(Edges e) {
        e.sentence("A THREAD closes a HANDLE: how many the OBJECT has still");
        e.each("of one more than", 0, 7, n -> withHandles(n + 1).close(n), n -> n);
        ExecutiveDesk x = withHandles(8);
        for (int h = 0; h < 8; h++) {
            e.due("handle " + h, 7 - h, x.close(h));
            e.due("it is not in use", ExecutiveDesk.REFUSED, x.handle(0, h, 0));
        }
        ExecutiveDesk y = withHandles(8);
        y.process(0);
        y.thread(1, 1);
        for (int h = 0; h < 8; h++) {
            y.open(3, 7);
        }
        e.due("sixteen in two processes", 16, y.object(0, 2));
        e.due("one is closed", 15, y.close(7));
        e.due("the other process's is in use", 0, y.handle(0, 7, 0));
    }

    private static void refusedIfItIsNoHandle(Edges e) {
        e.sentence("how many the OBJECT has still. REFUSED");
        e.outside("none is in use:", 0, -1, () -> withHandles(0), (x, h) -> x.close(h));
        e.outside("all are in use:", 0, 7, () -> withHandles(8), (x, h) -> x.close(h));
        e.inside("all are in use:", 0, 7, () -> withHandles(8), (x, h) -> x.close(h), h -> 7);
        e.outside("three are in use:", 0, 2, () -> withHandles(3), (x, h) -> x.close(h));
        for (int n = 0; n < 8; n++) {
            int h = n;
            e.refused("it was closed: " + h, ExecutiveDesk.REFUSED, () -> closed(h), x -> x.close(h));
        }
        e.sentence("A HANDLE is one of its PROCESS that is in use");
        e.refused("another process's", ExecutiveDesk.REFUSED, Edges06CloseTest::ofAnother, x -> x.close(0));
    }

    private static ExecutiveDesk closed(int h) {
        ExecutiveDesk x = withHandles(8);
        x.close(h);
        return x;
    }

    private static ExecutiveDesk ofAnother() {
        ExecutiveDesk x = withHandles(8);
        x.process(0);
        x.thread(1, 1);
        return x;
    }

    private static void noRightIsNeeded(Edges e) {
        e.sentence("DENIED if it lacks a RIGHT that is needed");
        e.inside("none is needed: rights", 1, 7, () -> withHandles(8), (x, h) -> x.close(h), h -> 7);
        e.sentence("HIGH (where said: the LEVEL is 1)");
        ExecutiveDesk x = withHandles(2);
        x.level(1);
        e.due("it is not said here", 1, x.close(0));
    }

    private static void withoutHandles(Edges e) {
        e.sentence("Without HANDLES it has no NAME");
        ExecutiveDesk x = withHandles(2);
        x.close(0);
        e.due("one is left", 3, x.object(0, 1));
        ExecutiveDesk y = Checks.desk(0);
        y.create(5, 0, 3);
        y.transfer(0, 0, 1, -1);
        e.due("none is left", 0, y.close(0));
        e.due("no name", -1, y.object(0, 1));
    }

    private static void withoutBothItIsGone(Edges e) {
        e.sentence("without both it is gone");
        ExecutiveDesk x = withHandles(1);
        x.close(0);
        e.due("neither handles nor pointers", ExecutiveDesk.REFUSED, x.object(0, 0));
        e.due("objects", 0, x.count(5));
        e.due("its name is free", 0, x.create(0, 0, 3));
        ExecutiveDesk y = Checks.desk(1, 0);
        y.create(0, 0, 3);
        y.await(0, -1, -1, 0, 1);
        e.due("its last handle", 0, y.close(0));
        e.due("a pointer keeps it", 1, y.object(0, 3));
        y.tick(1);
        e.due("the wait is over, it is gone", ExecutiveDesk.REFUSED, y.object(0, 3));
    }
}
