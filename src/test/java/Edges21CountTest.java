/** Each sentence of promise 21, count, that names a boundary case. */
public final class Edges21CountTest {
    public static void main(String[] args) {
        Edges e = new Edges("Edges21CountTest");
        refusedForOthers(e);
        theThreadThatRuns(e);
        theClock(e);
        theLevel(e);
        processes(e);
        threads(e);
        objectsThatAreThere(e);
        howManyInterruptsWait(e);
        howOftenAnotherThreadBeganToRun(e);
        transfersThatAreOver(e);
        e.end();
    }

    private static void refusedForOthers(Edges e) {
        e.sentence("8: TRANSFERS that are over, so far. REFUSED for others");
        e.outside("what of a new desk:", 0, 8, ExecutiveDesk::new, (x, what) -> x.count(what));
        e.outside("what", 0, 8, () -> Checks.desk(3, 2), (x, what) -> x.count(what));
        int[] want = {-1, 0, 0, 0, 0, 0, 0, 0, 0};
        for (int what = 0; what <= 8; what++) {
            e.due("what " + what, want[what], new ExecutiveDesk().count(what));
        }
    }

    private static void theThreadThatRuns(Edges e) {
        e.sentence("What 0: the THREAD that RUNS, -1 if none");
        ExecutiveDesk x = new ExecutiveDesk();
        e.due("no process", -1, x.count(0));
        x.process(0);
        e.due("no thread", -1, x.count(0));
        for (int t = 0; t < 8; t++) {
            x.thread(0, t);
            e.due("thread " + t, t, x.count(0));
        }
        x.create(0, 0, -1);
        for (int t = 7; t >= 0; t--) {
            x.await(0, -1, -1, 0, -1);
            e.due("thread " + t + " waits", t - 1, x.count(0));
        }
        ExecutiveDesk y = Checks.desk(3);
        y.exit();
        e.due("the only one has ended", -1, y.count(0));
    }

    private static void theClock(Edges e) {
        e.sentence("1: the CLOCK");
        ExecutiveDesk x = new ExecutiveDesk();
        int clock = 0;
        for (int n = 0; n <= 10; n++) {
            if (n >= 1 && n <= 9) {
                clock += n;
            }
            x.tick(n);
            e.due("behind tick " + n, clock, x.count(1));
        }
    }

    private static void theLevel(Edges e) {
        e.sentence("2: the LEVEL");
        ExecutiveDesk x = Checks.desk(3);
        e.due("at first", 0, x.count(2));
        x.level(1);
        e.due("1", 1, x.count(2));
        x.level(2);
        e.due("2 is refused", 1, x.count(2));
        x.level(0);
        e.due("0", 0, x.count(2));
        x.level(-1);
        e.due("-1 is refused", 0, x.count(2));
    }

    private static void processes(Edges e) {
        e.sentence("3: PROCESSES");
        ExecutiveDesk x = new ExecutiveDesk();
        for (int p = 0; p < 4; p++) {
            e.due("made", p, x.count(3));
            x.process(p);
        }
        e.due("four", 4, x.count(3));
        x.process(0);
        e.due("four at most", 4, x.count(3));
    }

    private static void threads(Edges e) {
        e.sentence("4: THREADS");
        ExecutiveDesk x = Checks.desk();
        for (int t = 0; t < 8; t++) {
            e.due("made", t, x.count(4));
            x.thread(0, t);
        }
        e.due("eight", 8, x.count(4));
        x.thread(0, 0);
        e.due("eight at most", 8, x.count(4));
    }

    private static void objectsThatAreThere(Edges e) {
        e.sentence("5: OBJECTS that are there");
        ExecutiveDesk x = new ExecutiveDesk();
        int made = 0;
        for (int p = 0; p < 2; p++) {
            x.process(0);
            x.thread(p, p);
            for (int h = 0; h < 8; h++) {
                e.due("made", made, x.count(5));
                x.create(0, 0, -1);
                made++;
            }
        }
        e.due("sixteen", 16, x.count(5));
        x.process(0);
        x.thread(2, 2);
        x.create(0, 0, -1);
        e.due("sixteen at most", 16, x.count(5));
        x.exit();
        for (int h = 0; h < 8; h++) {
            x.close(h);
            e.due("closed", 15 - h, x.count(5));
        }
        x.exit();
        x.exit();
        e.due("none is left", 0, x.count(5));
        ExecutiveDesk y = Checks.desk(3);
        y.create(5, 0, -1);
        y.transfer(0, 0, 1, -1);
        y.close(0);
        e.due("one without handles, but with a pointer, is there", 1, y.count(5));
        y.interrupt(0, true);
        e.due("one without both is not", 0, y.count(5));
    }

    private static void howManyInterruptsWait(Edges e) {
        e.sentence("6: how many interrupts wait");
        ExecutiveDesk x = Checks.desk(3);
        x.create(5, 0, -1);
        x.interrupt(0, true);
        e.due("at level 0 none does", 0, x.count(6));
        x.level(1);
        for (int n = 1; n <= 8; n++) {
            x.interrupt(0, true);
            e.due("how many", n, x.count(6));
        }
        x.interrupt(0, true);
        e.due("eight at most", 8, x.count(6));
        x.level(0);
        e.due("none does", 0, x.count(6));
    }

    private static void howOftenAnotherThreadBeganToRun(Edges e) {
        e.sentence("7: how often a THREAD began to RUN that is another one than that which ran before (the first one counts)");
        ExecutiveDesk x = Checks.desk();
        e.due("none did", 0, x.count(7));
        x.thread(0, 3);
        e.due("the first one", 1, x.count(7));
        x.create(0, 0, -1);
        x.await(0, -1, -1, 0, 1);
        e.due("none runs", 1, x.count(7));
        x.tick(1);
        e.due("the same one again", 1, x.count(7));
        x.thread(0, 3);
        e.due("one that is ready alone", 1, x.count(7));
        x.tick(3);
        e.due("another one", 2, x.count(7));
        x.tick(3);
        e.due("the first one again", 3, x.count(7));
        x.thread(0, 5);
        e.due("one of a greater priority", 4, x.count(7));
        x.exit();
        e.due("the one that was put off", 5, x.count(7));
        ExecutiveDesk y = Checks.desk(3, 3);
        for (int n = 1; n <= 300; n++) {
            y.tick(3);
        }
        e.due("many times", 301, y.count(7));
    }

    private static void transfersThatAreOver(Edges e) {
        e.sentence("8: TRANSFERS that are over, so far");
        ExecutiveDesk x = Checks.desk(3);
        x.create(5, 7, -1);
        e.due("none", 0, x.count(8));
        x.transfer(0, 0, 64, -1);
        x.transfer(0, 0, 64, -1);
        e.due("pending ones are not", 0, x.count(8));
        x.cancel(0);
        e.due("nor what is to be cancelled", 0, x.count(8));
        x.cancel(1);
        e.due("cancelled", 1, x.count(8));
        x.interrupt(0, false);
        e.due("cancelled when finished", 2, x.count(8));
        x.transfer(0, 0, 65, -1);
        e.due("too long", 3, x.count(8));
        x.transfer(0, 128, 64, -1);
        e.due("beyond", 4, x.count(8));
        x.transfer(0, 0, 64, -1);
        x.interrupt(0, false);
        e.due("retried", 4, x.count(8));
        x.interrupt(0, false);
        e.due("broken", 5, x.count(8));
        x.transfer(0, 0, 64, -1);
        x.interrupt(0, true);
        e.due("well", 6, x.count(8));
        for (int n = 0; n < 400; n++) {
            x.transfer(0, 0, 65, -1);
        }
        e.due("many more", 406, x.count(8));
    }
}
