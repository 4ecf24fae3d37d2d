/** Each sentence of promise 11, level, that names a boundary case. */
public final class Edges11LevelTest {
    public static void main(String[] args) {
        Edges e = new Edges("Edges11LevelTest");
        e.needsAThread(x -> x.level(1));
        e.needsAThread(x -> x.level(2));
        whatItWas(e);
        refusedForOthers(e);
        devicesAreFinishedInOrder(e);
        nothingWaits(e);
        firstDevicesThenThreads(e);
        threadsByNumbers(e);
        thenWhoRunsIsLookedAt(e);
        onlyWhenItBecomes0(e);
        e.end();
    }

    private static ExecutiveDesk at(int level) {
        ExecutiveDesk x = Checks.desk(3, 2);
        x.create(5, 0, 0);
        x.transfer(0, 0, 9, -1);
        x.level(level);
        x.interrupt(0, true);
        return x;
    }

    private static void whatItWas(Edges e) {
        e.sentence("A THREAD sets the LEVEL (0 or 1): what it was");
        for (int before = 0; before <= 1; before++) {
            for (int level = 0; level <= 1; level++) {
                ExecutiveDesk x = at(before);
                e.due("from " + before + " to " + level, before, x.level(level));
                e.due("from " + before + " it is " + level, level, x.count(2));
            }
        }
    }

    private static void refusedForOthers(Edges e) {
        e.sentence("REFUSED for others");
        e.outside("from 0 to", 0, 1, () -> at(0), (x, level) -> x.level(level));
        e.outside("from 1 to", 0, 1, () -> at(1), (x, level) -> x.level(level));
    }

    /** Two devices with four transfers each, 0 to 3 and 4 to 7; at level 1. */
    private static ExecutiveDesk twoDevices() {
        ExecutiveDesk x = Checks.desk(3);
        x.create(5, 0, 0);
        x.create(5, 0, 1);
        for (int i = 0; i < 8; i++) {
            x.transfer(i / 4, 0, i + 1, -1);
        }
        x.level(1);
        return x;
    }

    private static void devicesAreFinishedInOrder(Edges e) {
        e.sentence("first DEVICES are FINISHED that were interrupted meanwhile, in order");
        ExecutiveDesk x = twoDevices();
        for (int i = 0; i < 8; i++) {
            x.interrupt(i % 2, i % 4 < 2);
        }
        e.due("eight wait", 8, x.count(6));
        e.due("none is over", 0, x.count(8));
        x.level(0);
        e.due("none waits", 0, x.count(6));
        e.due("eight are over", 8, x.count(8));
        e.due("no pointer is left", 0, x.object(0, 3) + x.object(1, 3));
        for (int i = 0; i < 4; i++) {
            int how = i % 2 == 0 ? ExecutiveDesk.WELL : ExecutiveDesk.BROKEN;
            e.due("transfer " + i, how, x.io(i, 0));
            e.due("transfer " + (4 + i), how, x.io(4 + i, 0));
        }
        for (int interrupts = 0; interrupts <= 8; interrupts++) {
            ExecutiveDesk y = twoDevices();
            for (int n = 0; n < interrupts; n++) {
                y.interrupt(n / 4, true);
            }
            y.level(0);
            e.due("behind " + interrupts + " interrupts", interrupts, y.count(8));
            e.due("none waits behind " + interrupts, 0, y.count(6));
        }
    }

    private static void nothingWaits(Edges e) {
        e.sentence("that were interrupted meanwhile");
        ExecutiveDesk x = twoDevices();
        x.level(0);
        e.due("none was", 0, x.count(8));
        ExecutiveDesk y = Checks.desk(3);
        y.create(5, 0, 0);
        y.level(1);
        y.interrupt(0, true);
        e.due("one without transfers was", 1, y.level(0));
        e.due("nothing happened", 0, y.count(8));
        ExecutiveDesk z = twoDevices();
        for (int n = 0; n < 8; n++) {
            z.interrupt(0, true);
        }
        z.level(0);
        e.due("more often than it has transfers", 4, z.count(8));
        ExecutiveDesk w = Checks.desk(3);
        w.create(5, 0, 0);
        w.level(1);
        w.interrupt(0, true);
        w.transfer(0, 0, 9, -1);
        w.level(0);
        e.due("a transfer that came behind the interrupt is finished too", ExecutiveDesk.WELL, w.io(0, 0));
    }

    private static void firstDevicesThenThreads(Edges e) {
        e.sentence("first DEVICES are FINISHED .. then THREADS are ALERTED that are due");
        ExecutiveDesk x = Checks.desk(3, 2);
        x.create(5, 0, -1);
        x.create(0, 0, -1);
        x.transfer(0, 0, 9, 1);
        x.await(1, -1, -1, 2, -1);
        x.level(1);
        x.call(0, 1);
        x.interrupt(0, true);
        x.level(0);
        e.due("the device satisfied its wait", 0, x.actor(0, 3));
        e.due("it was not alerted", 1, x.actor(0, 4));
    }

    private static void threadsByNumbers(Edges e) {
        e.sentence("then THREADS are ALERTED that are due, by numbers");
        ExecutiveDesk x = Checks.desk(3, 3, 3, 3, 3, 3, 3, 0);
        x.create(0, 0, -1);
        for (int t = 0; t < 7; t++) {
            x.await(0, -1, -1, 2, -1);
        }
        x.level(1);
        for (int t = 6; t >= 0; t--) {
            x.call(t, 1);
        }
        x.level(0);
        for (int t = 0; t < 7; t++) {
            e.due("thread " + t, t, x.exit());
        }
        ExecutiveDesk y = Checks.desk(3, 2, 1);
        y.create(0, 0, -1);
        y.await(0, -1, -1, 2, -1);
        y.await(0, -1, -1, 0, -1);
        y.level(1);
        y.call(1, 1);
        y.level(0);
        e.due("without calls it is not due", 2, y.actor(0, 0));
        e.due("one that may not be alerted is not due", 2, y.actor(1, 0));
    }

    private static void thenWhoRunsIsLookedAt(Edges e) {
        e.sentence("then who RUNS is looked at");
        ExecutiveDesk x = Checks.desk(3);
        x.level(1);
        x.thread(0, 5);
        x.thread(0, 7);
        e.due("not while the level is 1", 0, x.count(0));
        e.due("it was 1", 1, x.level(0));
        e.due("the greatest priority", 2, x.count(0));
        e.due("once only", 2, x.count(7));
        ExecutiveDesk y = Checks.desk(3);
        y.level(1);
        y.thread(0, 3);
        y.level(0);
        e.due("the same priority", 0, y.count(0));
    }

    private static void onlyWhenItBecomes0(Edges e) {
        e.sentence("When it becomes 0");
        ExecutiveDesk x = at(1);
        x.thread(0, 7);
        x.level(1);
        e.due("1 again: the interrupt waits", 1, x.count(6));
        e.due("1 again: none is over", 0, x.count(8));
        e.due("1 again: the same one runs", 0, x.count(0));
        x.level(0);
        e.due("0: it does not", 0, x.count(6));
        e.due("0: one is over", 1, x.count(8));
        e.due("0: another one runs", 2, x.count(0));
        x.level(0);
        e.due("0 again: one is over", 1, x.count(8));
    }
}
