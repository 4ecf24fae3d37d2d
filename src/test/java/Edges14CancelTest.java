/** Each sentence of promise 14, cancel, that names a boundary case. */
public final class Edges14CancelTest {
    public static void main(String[] args) {
        Edges e = new Edges("Edges14CancelTest");
        e.needsAThread(x -> x.cancel(1));
        e.needsAThread(x -> x.cancel(-1));
        itsAnswer(e);
        theFirstOfItsRow(e);
        notTheFirst(e);
        whatStandsInTheRowBehindIt(e);
        itsObjectIsSet(e);
        refusedIfItIsNotPending(e);
        highIsNotSaid(e);
        e.end();
    }

    /** A device with this many transfers of length 9, each to set the note 1. */
    private static ExecutiveDesk withTransfers(int n) {
        ExecutiveDesk x = Checks.desk(3);
        x.create(5, 5, -1);
        x.create(0, 0, -1);
        for (int i = 0; i < n; i++) {
            x.transfer(0, 0, 9, 1);
        }
        return x;
    }

    private static void itsAnswer(Edges e) {
        e.sentence("A THREAD CANCELS TRANSFER i: 1 if it is over by that, 0 if it is to be CANCELLED");
        for (int i = 0; i < 8; i++) {
            ExecutiveDesk x = withTransfers(8);
            int answer = x.cancel(i);
            e.due("transfer " + i, i == 0 ? 0 : 1, answer);
            e.due("over by that: " + i, answer == 1 ? ExecutiveDesk.CANCELLED : ExecutiveDesk.PENDING, x.io(i, 0));
            e.due("to be cancelled: " + i, 1 - answer, x.io(i, 5));
        }
    }

    private static void theFirstOfItsRow(Edges e) {
        e.sentence("if it is the first of its row it is to be CANCELLED when it is FINISHED");
        for (int n = 1; n <= 8; n++) {
            ExecutiveDesk x = withTransfers(n);
            e.due("the first of " + n, 0, x.cancel(0));
            e.due("it is pending", ExecutiveDesk.PENDING, x.io(0, 0));
            e.due("and to be cancelled", 1, x.io(0, 5));
            e.due("it stands in the row", n, x.object(0, 4));
            e.due("none is over", 0, x.count(8));
            e.due("once more", 0, x.cancel(0));
            x.interrupt(0, true);
            e.due("finished", ExecutiveDesk.CANCELLED, x.io(0, 0));
            e.due("one is over", 1, x.count(8));
        }
        ExecutiveDesk x = withTransfers(2);
        x.interrupt(0, false);
        e.due("it was the first, but stands at the back again", 1, x.cancel(0));
        ExecutiveDesk y = withTransfers(2);
        y.interrupt(0, true);
        e.due("it has become the first", 0, y.cancel(1));
        ExecutiveDesk z = withTransfers(1);
        z.create(5, 0, -1);
        z.transfer(2, 0, 9, -1);
        e.due("each device has its own row", 0, z.cancel(1));
    }

    private static void notTheFirst(Edges e) {
        e.sentence("else it leaves the row, and is over, CANCELLED, with 0");
        for (int n = 2; n <= 8; n++) {
            for (int i = 1; i < n; i++) {
                ExecutiveDesk x = withTransfers(n);
                e.due("transfer " + i + " of " + n, 1, x.cancel(i));
                e.due("it is over", ExecutiveDesk.CANCELLED, x.io(i, 0));
                e.due("with", 0, x.io(i, 1));
                e.due("not to be cancelled any more", 0, x.io(i, 5));
                e.due("the row is shorter", n - 1, x.object(0, 4));
                e.due("one is over", 1, x.count(8));
                e.due("its pointer is gone", n - 1, x.object(0, 3));
            }
        }
    }

    private static void whatStandsInTheRowBehindIt(Edges e) {
        e.sentence("else it leaves the row");
        for (int gone = 1; gone < 8; gone++) {
            ExecutiveDesk x = withTransfers(8);
            x.cancel(gone);
            for (int i = 0; i < 8; i++) {
                if (i != gone) {
                    e.due("without " + gone + ": the first", i, x.object(0, 5));
                    x.interrupt(0, true);
                    e.due("without " + gone + ": it goes well", ExecutiveDesk.WELL, x.io(i, 0));
                }
            }
            e.due("without " + gone + ": none is left", 0, x.object(0, 4));
        }
    }

    private static void itsObjectIsSet(Edges e) {
        e.sentence("When it is over: if it has an OBJECT to set, that becomes SIGNALED");
        ExecutiveDesk x = withTransfers(2);
        x.cancel(0);
        e.due("to be cancelled: not yet", 0, x.object(1, 4));
        x.cancel(1);
        e.due("cancelled", 1, x.object(1, 4));
        ExecutiveDesk y = withTransfers(1);
        y.transfer(0, 0, 9, -1);
        y.cancel(1);
        e.due("one without an object to set", 0, y.object(1, 4));
        ExecutiveDesk z = withTransfers(2);
        z.thread(0, 2);
        z.await(1, -1, -1, 0, -1);
        e.due("thread 1 runs", 1, z.count(0));
        z.cancel(1);
        e.due("who waited for it runs", 0, z.count(0));
    }

    private static void refusedIfItIsNotPending(Edges e) {
        e.sentence("REFUSED if it is not PENDING");
        for (int n = 0; n <= 8; n++) {
            int made = n;
            e.outside("i of " + made + ":", 0, made - 1, () -> withTransfers(made), (x, i) -> x.cancel(i));
            e.inside("i of " + made + ":", 0, made - 1, () -> withTransfers(made), (x, i) -> x.cancel(i), i -> i == 0 ? 0 : 1);
        }
        e.refused("it went well", ExecutiveDesk.REFUSED, () -> interrupted(1, true), x -> x.cancel(0));
        e.refused("it is broken", ExecutiveDesk.REFUSED, () -> interrupted(2, false), x -> x.cancel(0));
        e.taken("it is retried", 0, () -> interrupted(1, false), x -> x.cancel(0));
        e.refused("it is cancelled", ExecutiveDesk.REFUSED, () -> {
            ExecutiveDesk x = withTransfers(2);
            x.cancel(1);
            return x;
        }, x -> x.cancel(1));
        e.refused("it was too long", ExecutiveDesk.REFUSED, () -> {
            ExecutiveDesk x = withTransfers(0);
            x.transfer(0, 0, 65, -1);
            return x;
        }, x -> x.cancel(0));
        e.refused("it was beyond", ExecutiveDesk.REFUSED, () -> {
            ExecutiveDesk x = Checks.desk(3);
            x.create(5, 2, -1);
            x.transfer(0, 128, 1, -1);
            return x;
        }, x -> x.cancel(0));
    }

    private static ExecutiveDesk interrupted(int times, boolean well) {
        ExecutiveDesk x = withTransfers(1);
        for (int n = 0; n < times; n++) {
            x.interrupt(0, well);
        }
        return x;
    }

    private static void highIsNotSaid(Edges e) {
        e.sentence("HIGH (where said: the LEVEL is 1)");
        ExecutiveDesk x = withTransfers(2);
        x.level(1);
        e.due("it is not said here", 1, x.cancel(1));
        e.due("nor for the first", 0, x.cancel(0));
    }
}
