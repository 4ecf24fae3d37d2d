/** Each sentence of promise 16, tick, that names a boundary case. */
public final class Edges16TickTest {
    public static void main(String[] args) {
        Edges e = new Edges("Edges16TickTest");
        nTicks(e);
        refusedForAnotherN(e);
        eachOfThem(e);
        timersThatAreDueThen(e);
        timersByNumbers(e);
        waitsWhoseTimeIsOverThen(e);
        waitsByThreads(e);
        timersBeforeWaits(e);
        thenWhoRunsIsLookedAt(e);
        aQuantumOf3(e);
        ifAnotherOneOfItsPriorityIsReady(e);
        theThreadThatRanBeforeTheTick(e);
        ifTheLevelIs0(e);
        whoBeginsToWaitHasUsedNone(e);
        nobodyNeedsToRun(e);
        e.end();
    }

    private static ExecutiveDesk busy() {
        ExecutiveDesk x = Checks.desk(3, 3, 5, 5);
        x.create(4, 0, -1);
        x.create(0, 0, -1);
        x.set(0, 4);
        x.await(0, 1, -1, 0, -1);
        x.await(1, -1, -1, 0, 6);
        return x;
    }

    private static void nTicks(Edges e) {
        e.sentence("n TICKS (1..9): the CLOCK then");
        e.inside("n", 1, 9, ExecutiveDesk::new, (x, n) -> x.tick(n), n -> n);
        e.inside("n, behind nine", 1, 9, () -> {
            ExecutiveDesk x = Checks.desk(3);
            x.tick(9);
            return x;
        }, (x, n) -> x.tick(n), n -> 9 + n);
        ExecutiveDesk x = Checks.desk(3, 3);
        for (int n = 1; n <= 500; n++) {
            e.due("nine more", 9 * n, x.tick(9));
        }
        e.due("the clock", 4500, x.count(1));
    }

    private static void refusedForAnotherN(Edges e) {
        e.sentence("REFUSED for another n");
        e.outside("n", 1, 9, Edges16TickTest::busy, (x, n) -> x.tick(n));
        e.outside("n, nobody runs", 1, 9, ExecutiveDesk::new, (x, n) -> x.tick(n));
    }

    private static void eachOfThem(Edges e) {
        e.sentence("Each: the CLOCK is one more");
        for (int n = 1; n <= 9; n++) {
            ExecutiveDesk at = busy();
            ExecutiveDesk by = busy();
            at.tick(n);
            for (int i = 0; i < n; i++) {
                by.tick(1);
            }
            for (int what = 0; what <= 8; what++) {
                e.due(n + " at once and one by one: count " + what, by.count(what), at.count(what));
                for (int t = 0; t < 4; t++) {
                    e.due(n + " at once and one by one: thread " + t + " what " + what, by.actor(t, what), at.actor(t, what));
                }
            }
        }
    }

    private static void timersThatAreDueThen(Edges e) {
        e.sentence("TIMERS that are due then are SIGNALED");
        for (int due = 1; due <= 9; due++) {
            for (int ticks = 1; ticks <= 9; ticks++) {
                ExecutiveDesk x = Checks.desk(3);
                x.create(4, 0, -1);
                x.set(0, due);
                x.tick(ticks);
                e.due("due in " + due + ", " + ticks + " ticks", ticks >= due ? 1 : 0, x.object(0, 4));
                e.due("due in " + due + " less " + ticks, Math.max(0, due - ticks), x.object(0, 5));
            }
        }
        ExecutiveDesk x = Checks.desk(3);
        x.create(4, 0, -1);
        x.set(0, 1);
        x.tick(1);
        x.set(0, 0);
        x.tick(9);
        e.due("once only", 0, x.object(0, 4));
    }

    private static void timersByNumbers(Edges e) {
        e.sentence("TIMERS that are due then are SIGNALED, by numbers");
        ExecutiveDesk x = Checks.desk(3);
        x.create(4, 0, -1);
        x.create(4, 0, -1);
        x.create(4, 0, -1);
        for (int h = 2; h >= 0; h--) {
            x.set(h, 1);
        }
        x.await(2, 1, 0, 0, -1);
        x.tick(1);
        e.due("timer 0, at the third place, was the first", 2, x.actor(0, 3));
        ExecutiveDesk y = new ExecutiveDesk();
        for (int p = 0; p < 2; p++) {
            y.process(0);
            y.thread(p, p);
            for (int h = 0; h < 8; h++) {
                y.create(4, 0, -1);
                y.set(h, 1);
            }
        }
        y.tick(1);
        for (int o = 0; o < 16; o++) {
            e.due("timer " + o + " of sixteen", 1, y.object(o, 4));
        }
    }

    private static void waitsWhoseTimeIsOverThen(Edges e) {
        e.sentence("waits whose time is over then end with TIMEOUT");
        for (int timeout = 1; timeout <= 9; timeout++) {
            for (int ticks = 1; ticks <= 9; ticks++) {
                ExecutiveDesk x = Checks.desk(3);
                x.create(0, 0, -1);
                x.await(0, -1, -1, 0, timeout);
                x.tick(ticks);
                boolean over = ticks >= timeout;
                String what = timeout + " less " + ticks;
                e.due(what + ": its result", over ? ExecutiveDesk.TIMEOUT : ExecutiveDesk.WAITING, x.actor(0, 3));
                e.due(what + ": left", over ? -1 : timeout - ticks, x.actor(0, 8));
                e.due(what + ": a pointer", over ? 0 : 1, x.object(0, 3));
            }
        }
    }

    private static void waitsByThreads(Edges e) {
        e.sentence("waits whose time is over then end with TIMEOUT, by THREADS");
        ExecutiveDesk x = Checks.desk(1, 1, 1, 1, 1, 1, 1, 1);
        x.create(0, 0, -1);
        x.tick(3);
        for (int t = 1; t < 8; t++) {
            x.await(0, -1, -1, 0, 5);
        }
        x.await(0, -1, -1, 0, 5);
        e.due("nobody runs", -1, x.count(0));
        x.tick(5);
        for (int t = 0; t < 8; t++) {
            e.due("thread " + t, t, x.exit());
        }
    }

    private static void timersBeforeWaits(Edges e) {
        e.sentence("TIMERS that are due then are SIGNALED, by numbers; waits whose time is over then end");
        for (int due = 1; due <= 3; due++) {
            ExecutiveDesk x = Checks.desk(3);
            x.create(4, 0, -1);
            x.set(0, due);
            x.await(0, -1, -1, 0, 2);
            x.tick(3);
            e.due("due in " + due + ", waits for 2", due <= 2 ? 0 : ExecutiveDesk.TIMEOUT, x.actor(0, 3));
        }
    }

    private static void thenWhoRunsIsLookedAt(Edges e) {
        e.sentence("then who RUNS is looked at");
        for (int timeout = 1; timeout <= 9; timeout++) {
            ExecutiveDesk x = Checks.desk(3, 5);
            x.create(0, 0, -1);
            x.await(0, -1, -1, 0, timeout);
            x.tick(9);
            e.due("in tick " + timeout + " of nine", 1, x.count(0));
            e.due("it has used what is left of nine behind " + timeout, (9 - timeout) % 3, x.actor(1, 7));
            e.due("the other one had used what was before " + timeout, (timeout - 1) % 3, x.actor(0, 7));
        }
    }

    private static void aQuantumOf3(Edges e) {
        e.sentence("it has used one more of its QUANTUM of 3: with 3 it has used none again");
        ExecutiveDesk x = Checks.desk(3);
        for (int n = 1; n <= 12; n++) {
            x.tick(1);
            e.due("the only one, tick " + n, n % 3, x.actor(0, 7));
            e.due("it runs on", 0, x.count(0));
        }
        ExecutiveDesk y = Checks.desk(3, 3);
        for (int n = 1; n <= 12; n++) {
            y.tick(1);
            e.due("one of two, tick " + n, n / 3 % 2, y.count(0));
            e.due("what it has used, tick " + n, n % 3, y.actor(n / 3 % 2, 7));
            e.due("what the other one has used, tick " + n, 0, y.actor(1 - n / 3 % 2, 7));
        }
    }

    private static void ifAnotherOneOfItsPriorityIsReady(Edges e) {
        e.sentence("and, if another one of its PRIORITY is READY, it goes to the back of its row, and the NEXT one RUNS");
        ExecutiveDesk x = Checks.desk(3, 2);
        x.tick(3);
        e.due("one of the next less priority", 0, x.count(0));
        ExecutiveDesk y = Checks.desk(3, 3);
        y.create(0, 0, -1);
        y.await(0, -1, -1, 0, -1);
        y.tick(3);
        e.due("another one waits", 1, y.count(0));
        ExecutiveDesk z = Checks.desk(7, 7, 7, 7, 7, 7, 7, 7);
        for (int n = 1; n <= 16; n++) {
            z.tick(3);
            e.due("turn " + n + " of eight", n % 8, z.count(0));
        }
        ExecutiveDesk w = Checks.desk(0, 0);
        w.tick(3);
        e.due("the least priority", 1, w.count(0));
    }

    private static void theThreadThatRanBeforeTheTick(Edges e) {
        e.sentence("and the THREAD that RAN before the TICK RUNS still");
        ExecutiveDesk x = Checks.desk(3);
        x.create(0, 0, -1);
        x.await(0, -1, -1, 0, 1);
        x.tick(1);
        e.due("nobody ran before", 0, x.actor(0, 7));
        x.tick(1);
        e.due("it did", 1, x.actor(0, 7));
        ExecutiveDesk y = Checks.desk(3, 5);
        y.create(0, 0, -1);
        y.await(0, -1, -1, 0, 2);
        y.tick(1);
        y.tick(1);
        e.due("it does not run still", 1, y.actor(0, 7));
        e.due("the other one did not run before", 0, y.actor(1, 7));
    }

    private static void ifTheLevelIs0(Edges e) {
        e.sentence("then, if the LEVEL is 0");
        ExecutiveDesk x = Checks.desk(3, 3);
        x.tick(2);
        x.level(1);
        e.due("the clock goes on", 11, x.tick(9));
        e.due("it has used no more", 2, x.actor(0, 7));
        e.due("it runs", 0, x.count(0));
        x.level(0);
        e.due("nor by level 0", 2, x.actor(0, 7));
        x.tick(1);
        e.due("then the other one runs", 1, x.count(0));
        ExecutiveDesk y = busy();
        y.level(1);
        y.tick(9);
        e.due("timers are due at level 1", 1, y.object(0, 4));
        e.due("waits end at level 1", ExecutiveDesk.TIMEOUT, y.actor(3, 3));
        e.due("who runs is not looked at", 0, y.count(0));
    }

    private static void whoBeginsToWaitHasUsedNone(Edges e) {
        e.sentence("(Who begins to wait has used none, too.)");
        for (int used = 0; used <= 2; used++) {
            ExecutiveDesk x = Checks.desk(3, 3);
            x.create(0, 0, -1);
            for (int n = 0; n < used; n++) {
                x.tick(1);
            }
            e.due("used", used, x.actor(0, 7));
            x.await(0, -1, -1, 0, -1);
            e.due("of " + used, 0, x.actor(0, 7));
        }
    }

    private static void nobodyNeedsToRun(Edges e) {
        e.sentence("NOBODY (if a THREAD makes it)");
        e.taken("a new desk", 1, ExecutiveDesk::new, x -> x.tick(1));
        ExecutiveDesk x = Checks.desk(3);
        x.exit();
        e.due("all have ended", 9, x.tick(9));
    }
}
