public final class Promise16TickTest {
    public static void main(String[] args) {
        Checks c = new Checks("Promise16TickTest");
        clock(c);
        timersByNumbers(c);
        timersBeforeTimeouts(c);
        timeoutsByThreads(c);
        quantum(c);
        quantumOfOneThatIsPutOff(c);
        quantumAtLevelOne(c);
        beginsToRunInATick(c);
        allEightWait(c);
        c.end();
    }

    private static void clock(Checks c) {
        ExecutiveDesk x = new ExecutiveDesk();
        for (int n : new int[] {0, -1, 10, Integer.MIN_VALUE, Integer.MAX_VALUE}) {
            c.due("tick " + n, ExecutiveDesk.REFUSED, x.tick(n));
        }
        c.due("the clock", 0, x.count(1));
        c.due("one", 1, x.tick(1));
        c.due("nine", 10, x.tick(9));
        c.due("the clock", 10, x.count(1));
    }

    private static void timersByNumbers(Checks c) {
        ExecutiveDesk x = Checks.desk(1);
        x.create(4, 0, -1);
        x.create(4, 0, -1);
        x.set(1, 2);
        x.set(0, 2);
        x.await(1, 0, -1, 0, -1);
        x.tick(1);
        c.due("not yet", ExecutiveDesk.WAITING, x.actor(0, 3));
        c.due("one tick more", 1, x.object(0, 5));
        x.tick(1);
        c.due("timer 0, at the second place, was the first", 1, x.actor(0, 3));
        c.due("timer 0", 1, x.object(0, 4));
        c.due("timer 1", 1, x.object(1, 4));
        c.due("it runs", 0, x.count(0));
        x.set(0, 1);
        x.set(1, 3);
        x.await(0, 1, -1, 1, -1);
        x.tick(2);
        c.due("ALL: one of two", 2, x.actor(0, 0));
        x.tick(1);
        c.due("ALL", 0, x.actor(0, 3));
    }

    private static void timersBeforeTimeouts(Checks c) {
        ExecutiveDesk x = Checks.desk(1);
        x.create(4, 0, -1);
        x.set(0, 3);
        x.await(0, -1, -1, 0, 3);
        c.due("the ticks that it lasts", 3, x.actor(0, 8));
        x.tick(2);
        c.due("one more", 1, x.actor(0, 8));
        c.due("the clock", 3, x.tick(1));
        c.due("the timer came first", 0, x.actor(0, 3));
        x.set(0, 4);
        x.await(0, -1, -1, 0, 3);
        x.tick(3);
        c.due("the time came first", ExecutiveDesk.TIMEOUT, x.actor(0, 3));
        c.due("no pointer", 0, x.object(0, 3));
        c.due("it is due still", 1, x.object(0, 5));
        x.set(0, 9);
        x.await(0, -1, -1, 0, 5);
        x.tick(9);
        c.due("in the midst of nine ticks", ExecutiveDesk.TIMEOUT, x.actor(0, 3));
        c.due("it has run for four ticks since", 1, x.actor(0, 7));
    }

    private static void timeoutsByThreads(Checks c) {
        ExecutiveDesk x = Checks.desk(2, 2, 2, 1);
        x.create(0, 0, -1);
        x.tick(3);
        c.due("thread 1 runs", 1, x.count(0));
        x.await(0, -1, -1, 0, 2);
        x.await(0, -1, -1, 0, 2);
        x.await(0, -1, -1, 0, 2);
        c.due("thread 3 runs", 3, x.count(0));
        x.tick(2);
        c.due("thread 0 is the first, though it began last", 0, x.count(0));
        x.exit();
        c.due("then thread 1", 1, x.count(0));
        x.exit();
        c.due("then thread 2", 2, x.count(0));
    }

    private static void quantum(Checks c) {
        ExecutiveDesk x = Checks.desk(2, 2, 1);
        x.tick(1);
        c.due("used 1", 1, x.actor(0, 7));
        x.tick(1);
        c.due("used 2", 2, x.actor(0, 7));
        c.due("it runs", 0, x.count(0));
        x.tick(1);
        c.due("used none again", 0, x.actor(0, 7));
        c.due("it is ready", 1, x.actor(0, 0));
        c.due("the other one runs", 1, x.count(0));
        c.due("and has used none", 0, x.actor(1, 7));
        x.tick(6);
        c.due("six ticks: two turns", 1, x.count(0));
        c.due("threads that began to run", 4, x.count(7));
        x.exit();
        x.tick(3);
        c.due("the only one of its priority runs on", 0, x.count(0));
        c.due("and has used none", 0, x.actor(0, 7));
        c.due("it began to run once more", 5, x.count(7));
        x.tick(2);
        c.due("used 2", 2, x.actor(0, 7));
    }

    private static void quantumOfOneThatIsPutOff(Checks c) {
        ExecutiveDesk x = Checks.desk(2, 2, 5);
        x.create(0, 0, -1);
        x.await(0, -1, -1, 0, 2);
        x.tick(1);
        c.due("thread 0 used 1", 1, x.actor(0, 7));
        x.tick(1);
        c.due("thread 2 runs", 2, x.count(0));
        c.due("thread 0 did not run at the end: used 1", 1, x.actor(0, 7));
        c.due("thread 2 did not run before: used none", 0, x.actor(2, 7));
        x.await(0, -1, -1, 0, -1);
        c.due("thread 0 stood at the front", 0, x.count(0));
        x.tick(2);
        c.due("its quantum is over", 1, x.count(0));
        c.due("used none", 0, x.actor(0, 7));
    }

    private static void quantumAtLevelOne(Checks c) {
        ExecutiveDesk x = Checks.desk(2, 2);
        x.create(4, 0, -1);
        x.set(0, 1);
        x.thread(0, 5);
        x.await(0, -1, -1, 0, 9);
        x.level(1);
        c.due("the clock goes on", 4, x.tick(4));
        c.due("used none", 0, x.actor(0, 7));
        c.due("thread 0 runs", 0, x.count(0));
        c.due("thread 2 is ready", 1, x.actor(2, 0));
        c.due("its timer was due", 0, x.actor(2, 3));
        x.level(0);
        c.due("thread 2 runs", 2, x.count(0));
        x.set(0, 0);
        x.await(0, -1, -1, 0, 2);
        x.level(1);
        x.tick(3);
        c.due("time goes on", ExecutiveDesk.TIMEOUT, x.actor(2, 3));
        c.due("thread 0 runs", 0, x.count(0));
    }

    private static void allEightWait(Checks c) {
        ExecutiveDesk x = Checks.desk(0, 1, 2, 3, 4, 5, 6, 7);
        x.create(4, 0, -1);
        x.set(0, 3);
        for (int t = 0; t < 8; t++) {
            x.await(0, -1, -1, 0, 4);
        }
        c.due("nobody runs", -1, x.count(0));
        c.due("eight pointers", 8, x.object(0, 3));
        x.tick(3);
        for (int t = 0; t < 8; t++) {
            c.due("the timer was due for thread " + t, 0, x.actor(t, 3));
            c.due("thread " + t, t == 7 ? 0 : 1, x.actor(t, 0));
        }
        x.set(0, 0);
        for (int t = 0; t < 8; t++) {
            x.await(0, -1, -1, 0, 2);
        }
        x.tick(2);
        for (int t = 0; t < 8; t++) {
            c.due("the time was over for thread " + t, ExecutiveDesk.TIMEOUT, x.actor(t, 3));
        }
        c.due("no pointers", 0, x.object(0, 3));
    }

    private static void beginsToRunInATick(Checks c) {
        ExecutiveDesk x = Checks.desk(2);
        x.create(0, 0, -1);
        x.await(0, -1, -1, 0, 2);
        x.tick(2);
        c.due("it runs", 0, x.count(0));
        c.due("it did not before the tick", 0, x.actor(0, 7));
        x.await(0, -1, -1, 0, 1);
        x.tick(3);
        c.due("two of three ticks", 2, x.actor(0, 7));
        x.await(0, -1, -1, 0, 3);
        c.due("who begins to wait has used none", 0, x.actor(0, 7));
        x.tick(9);
        c.due("six ticks: none again", 0, x.actor(0, 7));
        c.due("the same one each time", 1, x.count(7));
    }
}
