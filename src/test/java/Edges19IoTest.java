/** Each sentence of promise 19, io, that names a boundary case. */
public final class Edges19IoTest {
    public static void main(String[] args) {
        Edges e = new Edges("Edges19IoTest");
        refusedIfThereWasNone(e);
        refusedForOthers(e);
        howItStands(e);
        withHowMuch(e);
        itsThread(e);
        theObjectOfItsDevice(e);
        itsLengthAsItIs(e);
        pendingAndToBeCancelled(e);
        wasRetried(e);
        e.end();
    }

    private static ExecutiveDesk withTransfers(int layers, int n) {
        ExecutiveDesk x = Checks.desk(3, 2);
        x.create(5, layers, -1);
        for (int i = 0; i < n; i++) {
            x.transfer(0, 0, i + 1, -1);
        }
        return x;
    }

    private static ExecutiveDesk interrupted(int layers, int times, boolean well) {
        ExecutiveDesk x = withTransfers(layers, 1);
        for (int n = 0; n < times; n++) {
            x.interrupt(0, well);
        }
        return x;
    }

    private static void refusedIfThereWasNone(Edges e) {
        e.sentence("REFUSED if there was none");
        for (int made = 0; made <= 8; made++) {
            int n = made;
            e.outside("i of " + n + ":", 0, n - 1, () -> withTransfers(0, n), (x, i) -> x.io(i, 4));
            e.inside("i of " + n + ":", 0, n - 1, () -> withTransfers(0, n), (x, i) -> x.io(i, 4), i -> i + 1);
        }
        for (int what = 0; what <= 6; what++) {
            e.due("none, what " + what, ExecutiveDesk.REFUSED, withTransfers(0, 0).io(0, what));
        }
        e.due("there was one, it is over", ExecutiveDesk.WELL, interrupted(0, 1, true).io(0, 0));
        ExecutiveDesk x = interrupted(0, 1, true);
        x.close(0);
        e.due("even its device is gone", ExecutiveDesk.WELL, x.io(0, 0));
        x.exit();
        e.due("even its thread has ended", ExecutiveDesk.WELL, x.io(0, 0));
    }

    private static void refusedForOthers(Edges e) {
        e.sentence("REFUSED if there was none, or for others");
        e.outside("what of one that is pending:", 0, 6, () -> withTransfers(0, 1), (x, what) -> x.io(0, what));
        e.outside("what of one that is over:", 0, 6, () -> interrupted(0, 1, true), (x, what) -> x.io(0, what));
        e.outside("what of the last one:", 0, 6, () -> withTransfers(0, 8), (x, what) -> x.io(7, what));
        int[] want = {ExecutiveDesk.PENDING, 0, 0, 0, 8, 0, 0};
        for (int what = 0; what <= 6; what++) {
            e.due("what " + what, want[what], withTransfers(0, 8).io(7, what));
        }
    }

    private static void howItStands(Edges e) {
        e.sentence("Of TRANSFER i what 0: how it stands (PENDING .. CANCELLED)");
        e.due("PENDING", 0, withTransfers(0, 1).io(0, 0));
        e.due("WELL", 1, interrupted(0, 1, true).io(0, 0));
        ExecutiveDesk x = withTransfers(1, 0);
        x.transfer(0, 0, 65, -1);
        e.due("TOO_LONG", 2, x.io(0, 0));
        ExecutiveDesk y = withTransfers(2, 0);
        y.transfer(0, 128, 1, -1);
        e.due("BEYOND", 3, y.io(0, 0));
        e.due("BROKEN", 4, interrupted(0, 1, false).io(0, 0));
        ExecutiveDesk z = withTransfers(0, 2);
        z.cancel(1);
        e.due("CANCELLED", 5, z.io(1, 0));
    }

    private static void withHowMuch(Edges e) {
        e.sentence("1: with how much");
        e.due("pending", 0, withTransfers(0, 1).io(0, 1));
        for (int n : new int[] {1, 2, 63, 64, 65, 98, 99}) {
            ExecutiveDesk x = withTransfers(0, 0);
            x.transfer(0, 0, n, -1);
            x.interrupt(0, true);
            e.due("well, length " + n, n, x.io(0, 1));
            ExecutiveDesk y = withTransfers(0, 0);
            y.transfer(0, 0, n, -1);
            y.interrupt(0, false);
            e.due("broken, length " + n, 0, y.io(0, 1));
            ExecutiveDesk z = withTransfers(0, 1);
            z.transfer(0, 0, n, -1);
            z.cancel(1);
            e.due("cancelled, length " + n, 0, z.io(1, 1));
        }
        ExecutiveDesk x = interrupted(0, 1, true);
        x.transfer(0, 0, 9, -1);
        e.due("a new one under an old number", 0, x.io(0, 1));
    }

    private static void itsThread(Edges e) {
        e.sentence("2: its THREAD");
        ExecutiveDesk x = new ExecutiveDesk();
        x.process(0);
        for (int t = 0; t < 8; t++) {
            x.thread(0, t);
            if (t == 0) {
                x.create(5, 0, -1);
            }
            x.transfer(0, 0, 1, -1);
            e.due("transfer " + t, t, x.io(t, 2));
        }
    }

    private static void theObjectOfItsDevice(Edges e) {
        e.sentence("3: the OBJECT of its DEVICE");
        for (int o = 0; o < 8; o++) {
            ExecutiveDesk x = Checks.desk(3);
            for (int h = 0; h < 8; h++) {
                x.create(5, 0, -1);
            }
            x.transfer(o, 0, 1, -1);
            e.due("object", o, x.io(0, 3));
        }
        ExecutiveDesk x = new ExecutiveDesk();
        for (int p = 0; p < 2; p++) {
            x.process(0);
            x.thread(p, p);
            for (int h = 0; h < 8; h++) {
                x.create(5, 0, -1);
            }
        }
        x.transfer(7, 0, 1, -1);
        e.due("the last object", 15, x.io(0, 3));
    }

    private static void itsLengthAsItIs(Edges e) {
        e.sentence("4: its length as it is");
        int[][] cases = {{0, 1, 1}, {0, 99, 99}, {29, 99, 99}, {30, 99, 98}, {127, 1, 1}, {127, 99, 1}};
        for (int[] one : cases) {
            ExecutiveDesk x = withTransfers(2, 0);
            x.transfer(0, one[0], one[1], -1);
            e.due("place " + one[0] + " length " + one[1], one[2], x.io(0, 4));
            x.interrupt(0, true);
            e.due("over: place " + one[0] + " length " + one[1], one[2], x.io(0, 4));
        }
    }

    private static void pendingAndToBeCancelled(Edges e) {
        e.sentence("5: 1 if it is PENDING and to be CANCELLED, else 0");
        ExecutiveDesk x = withTransfers(0, 2);
        e.due("pending", 0, x.io(0, 5));
        x.cancel(0);
        e.due("and to be cancelled", 1, x.io(0, 5));
        e.due("the one behind it", 0, x.io(1, 5));
        x.interrupt(0, true);
        e.due("cancelled", 0, x.io(0, 5));
        x.transfer(0, 0, 1, -1);
        e.due("a new one under that number", 0, x.io(0, 5));
        x.cancel(0);
        e.due("cancelled at once", 0, x.io(0, 5));
    }

    private static void wasRetried(Edges e) {
        e.sentence("6: 1 if it was RETRIED, else 0");
        for (int layers = 0; layers < 8; layers++) {
            int retries = (layers & 5) == 5 ? 1 : 0;
            e.due("pending, layers " + layers, 0, interrupted(layers, 0, false).io(0, 6));
            e.due("once not well, layers " + layers, retries, interrupted(layers, 1, false).io(0, 6));
            e.due("twice not well, layers " + layers, retries, interrupted(layers, 2, false).io(0, 6));
            e.due("well, layers " + layers, 0, interrupted(layers, 1, true).io(0, 6));
        }
        ExecutiveDesk x = interrupted(5, 1, false);
        x.interrupt(0, true);
        e.due("it was, and went well then", 1, x.io(0, 6));
        x.transfer(0, 0, 1, -1);
        e.due("a new one under that number", 0, x.io(0, 6));
    }
}
