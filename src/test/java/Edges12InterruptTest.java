/** Each sentence of promise 12, interrupt, that names a boundary case. */
public final class Edges12InterruptTest {
    public static void main(String[] args) {
        Edges e = new Edges("Edges12InterruptTest");
        atOnceOrLater(e);
        ifThereIsNoneNothingHappens(e);
        theFirstOfItsRow(e);
        wellOrNot(e);
        itDidNotRetryForThisOne(e);
        refusedIfItIsNone(e);
        fullIf8Wait(e);
        refusedIsTestedBeforeFull(e);
        aPointerForEachThatWaits(e);
        nobodyNeedsToRun(e);
        e.end();
    }

    /** Object 0 is a device without layers, object 1 a note; at level 1 this many interrupts of 0 wait. */
    private static ExecutiveDesk withInterrupts(int n) {
        ExecutiveDesk x = Checks.desk(3);
        x.create(5, 0, -1);
        x.create(0, 0, -1);
        x.create(5, 0, -1);
        x.transfer(0, 0, 9, -1);
        x.level(1);
        for (int i = 0; i < n; i++) {
            x.interrupt(0, true);
        }
        return x;
    }

    /** A device of these layers with this many transfers, of the lengths 1 and more. */
    private static ExecutiveDesk withTransfers(int layers, int n) {
        ExecutiveDesk x = Checks.desk(3);
        x.create(5, layers, -1);
        for (int i = 0; i < n; i++) {
            x.transfer(0, 0, i + 1, -1);
        }
        return x;
    }

    private static void atOnceOrLater(Edges e) {
        e.sentence("at once, or, with LEVEL 1, when that becomes 0 (at most 8 wait for that): 1, or 0 if it waits");
        ExecutiveDesk x = withTransfers(0, 2);
        e.due("at level 0", 1, x.interrupt(0, true));
        e.due("one is over", 1, x.count(8));
        x.level(1);
        e.due("at level 1", 0, x.interrupt(0, true));
        e.due("one is over still", 1, x.count(8));
        e.due("it is pending", ExecutiveDesk.PENDING, x.io(1, 0));
        x.level(0);
        e.due("when that becomes 0", 2, x.count(8));
        ExecutiveDesk y = withTransfers(0, 8);
        y.level(1);
        for (int i = 0; i < 8; i++) {
            y.interrupt(0, i % 3 == 0);
        }
        y.level(0);
        for (int i = 0; i < 8; i++) {
            e.due("each well or not, in order: " + i, i % 3 == 0 ? ExecutiveDesk.WELL : ExecutiveDesk.BROKEN, y.io(i, 0));
        }
    }

    private static void ifThereIsNoneNothingHappens(Edges e) {
        e.sentence("(if there is none nothing happens)");
        for (int layers = 0; layers < 8; layers++) {
            for (int n = 0; n <= 1; n++) {
                ExecutiveDesk x = withTransfers(layers, 0);
                e.due("layers " + layers, 1, x.interrupt(0, n == 1));
                e.due("none is over", 0, x.count(8));
                e.due("the row is empty", 0, x.object(0, 4));
                e.due("no transfer was made", ExecutiveDesk.REFUSED, x.io(0, 0));
            }
        }
        ExecutiveDesk x = withTransfers(0, 1);
        x.interrupt(0, true);
        e.due("the only one is over", 1, x.interrupt(0, true));
        e.due("one is over", 1, x.count(8));
        x.level(1);
        e.due("at level 1 it waits", 0, x.interrupt(0, true));
    }

    private static void theFirstOfItsRow(Edges e) {
        e.sentence("OBJECT o, a DEVICE, is interrupted: the first TRANSFER of its row is FINISHED, well or not");
        for (int n = 1; n <= 8; n++) {
            ExecutiveDesk x = withTransfers(0, n);
            for (int i = 0; i < n; i++) {
                e.due("the first of " + n, i, x.object(0, 5));
                x.interrupt(0, true);
                e.due("it is over", ExecutiveDesk.WELL, x.io(i, 0));
                e.due("how many are left", n - 1 - i, x.object(0, 4));
            }
            e.due("none of " + n + " is left", -1, x.object(0, 5));
        }
    }

    private static void wellOrNot(Edges e) {
        e.sentence("if well: over, WELL, with its length");
        e.each("length", 1, 99, n -> finished(n, true).io(0, 1), n -> n);
        e.due("WELL", ExecutiveDesk.WELL, finished(1, true).io(0, 0));
        e.sentence("else over, BROKEN, with 0");
        e.due("BROKEN", ExecutiveDesk.BROKEN, finished(99, false).io(0, 0));
        e.due("with", 0, finished(99, false).io(0, 1));
        e.sentence("if it is to be CANCELLED it is over, CANCELLED, with 0");
        for (int n = 0; n <= 1; n++) {
            ExecutiveDesk x = withTransfers(5, 1);
            x.cancel(0);
            x.interrupt(0, n == 1);
            e.due("CANCELLED", ExecutiveDesk.CANCELLED, x.io(0, 0));
            e.due("with", 0, x.io(0, 1));
            e.due("it did not retry", 0, x.io(0, 6));
        }
    }

    private static ExecutiveDesk finished(int length, boolean well) {
        ExecutiveDesk x = Checks.desk(3);
        x.create(5, 0, -1);
        x.transfer(0, 0, length, -1);
        x.interrupt(0, well);
        return x;
    }

    private static void itDidNotRetryForThisOne(Edges e) {
        e.sentence("else, if there is a FILTER that RETRIES, and it did not for this one: it stands at the back of the row again");
        for (int n = 1; n <= 8; n++) {
            ExecutiveDesk x = withTransfers(5, n);
            x.interrupt(0, false);
            e.due("of " + n + ": pending", ExecutiveDesk.PENDING, x.io(0, 0));
            e.due("of " + n + ": retried", 1, x.io(0, 6));
            e.due("of " + n + ": in the row", n, x.object(0, 4));
            e.due("of " + n + ": the first", n == 1 ? 0 : 1, x.object(0, 5));
            for (int i = 1; i < n; i++) {
                x.interrupt(0, true);
            }
            e.due("of " + n + ": it was the last", 0, x.object(0, 5));
            x.interrupt(0, false);
            e.due("of " + n + ": once only", ExecutiveDesk.BROKEN, x.io(0, 0));
        }
        for (int layers = 0; layers < 8; layers++) {
            ExecutiveDesk x = withTransfers(layers, 1);
            x.interrupt(0, false);
            int how = (layers & 5) == 5 ? ExecutiveDesk.PENDING : ExecutiveDesk.BROKEN;
            e.due("layers " + layers, how, x.io(0, 0));
        }
        ExecutiveDesk x = withTransfers(5, 1);
        x.interrupt(0, false);
        x.interrupt(0, false);
        x.transfer(0, 0, 9, -1);
        e.due("a new one under that number was not retried", 0, x.io(0, 6));
        x.interrupt(0, false);
        e.due("it is", 1, x.io(0, 6));
    }

    private static void refusedIfItIsNone(Edges e) {
        e.sentence("REFUSED if it is none");
        e.outside("no object", 0, -1, ExecutiveDesk::new, (x, o) -> x.interrupt(o, true));
        for (int level = 0; level <= 1; level++) {
            int at = level;
            e.outside("the only device is 0: level " + at + ",", 0, 0, () -> atLevel(at), (x, o) -> x.interrupt(o, true));
            e.outside("no device: level " + at + ",", 0, 15, () -> sixteenDevices(at), (x, o) -> x.interrupt(o, false));
            e.inside("a device: level " + at + ",", 0, 15, () -> sixteenDevices(at), (x, o) -> x.interrupt(o, false), o -> 1 - at);
        }
        for (int n = 0; n < 5; n++) {
            int type = n;
            e.refused("an object of type " + type, ExecutiveDesk.REFUSED, () -> {
                ExecutiveDesk x = Checks.desk(3);
                x.create(type, 0, -1);
                return x;
            }, x -> x.interrupt(0, true));
        }
        e.refused("a device that is gone", ExecutiveDesk.REFUSED, () -> {
            ExecutiveDesk x = Checks.desk(3);
            x.create(5, 0, -1);
            x.close(0);
            return x;
        }, x -> x.interrupt(0, true));
    }

    private static ExecutiveDesk atLevel(int level) {
        ExecutiveDesk x = Checks.desk(3);
        x.create(5, 0, -1);
        x.level(level);
        return x;
    }

    private static ExecutiveDesk sixteenDevices(int level) {
        ExecutiveDesk x = new ExecutiveDesk();
        for (int p = 0; p < 2; p++) {
            x.process(0);
            x.thread(p, p);
            for (int h = 0; h < 8; h++) {
                x.create(5, 0, -1);
            }
        }
        x.level(level);
        return x;
    }

    private static void fullIf8Wait(Edges e) {
        e.sentence("FULL if 8 wait");
        e.each("behind", 0, 7, n -> withInterrupts(n).interrupt(0, true), n -> 0);
        e.each("how many wait:", 0, 8, n -> withInterrupts(n).count(6), n -> n);
        e.refused("a ninth", ExecutiveDesk.FULL, () -> withInterrupts(8), x -> x.interrupt(0, true));
        e.refused("a ninth, not well", ExecutiveDesk.FULL, () -> withInterrupts(8), x -> x.interrupt(0, false));
        e.refused("a ninth, of another device", ExecutiveDesk.FULL, () -> withInterrupts(8), x -> x.interrupt(2, true));
        ExecutiveDesk x = withInterrupts(8);
        x.level(0);
        e.due("level 0: at once", 1, x.interrupt(0, true));
        x.level(1);
        e.due("level 1: there is room again", 0, x.interrupt(0, true));
    }

    private static void refusedIsTestedBeforeFull(Edges e) {
        e.sentence("tested in the order: .. REFUSED, DENIED, then what else is named");
        e.outside("no object, behind eight:", 0, 2, () -> withInterrupts(8), (x, o) -> x.interrupt(o, true));
        e.refused("a note, behind eight", ExecutiveDesk.REFUSED, () -> withInterrupts(8), x -> x.interrupt(1, true));
    }

    private static void aPointerForEachThatWaits(Edges e) {
        e.sentence("and one for each interrupt of it that waits");
        e.each("beside the transfer's:", 0, 8, n -> withInterrupts(n).object(0, 3), n -> n + 1);
        ExecutiveDesk x = withInterrupts(8);
        x.level(0);
        e.due("none waits", 0, x.object(0, 3));
        ExecutiveDesk y = atLevel(1);
        y.interrupt(0, true);
        y.close(0);
        e.due("it is kept without handles", 5, y.object(0, 0));
        y.level(0);
        e.due("then it is gone", ExecutiveDesk.REFUSED, y.object(0, 0));
    }

    private static void nobodyNeedsToRun(Edges e) {
        e.sentence("NOBODY (if a THREAD makes it)");
        ExecutiveDesk x = withTransfers(0, 1);
        x.create(0, 0, -1);
        x.transfer(0, 0, 9, 1);
        x.await(1, -1, -1, 0, -1);
        e.due("nobody runs", -1, x.count(0));
        e.due("an interrupt", 1, x.interrupt(0, true));
        e.due("it is over", 1, x.count(8));
        e.due("the next one", 1, x.interrupt(0, true));
        e.due("who waited for it runs", 0, x.count(0));
    }
}
