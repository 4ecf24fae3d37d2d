public final class Promise10CallTest {
    public static void main(String[] args) {
        Checks c = new Checks("Promise10CallTest");
        wrongInputs(c);
        rows(c);
        alerted(c);
        c.end();
    }

    private static void wrongInputs(Checks c) {
        ExecutiveDesk x = new ExecutiveDesk();
        c.due("no thread 0", ExecutiveDesk.REFUSED, x.call(0, 1));
        x.process(0);
        x.thread(0, 0);
        x.thread(0, 1);
        c.due("thread -1", ExecutiveDesk.REFUSED, x.call(-1, 1));
        c.due("thread 2", ExecutiveDesk.REFUSED, x.call(2, 1));
        c.due("thread far off", ExecutiveDesk.REFUSED, x.call(Integer.MAX_VALUE, 1));
        c.due("call 0", ExecutiveDesk.REFUSED, x.call(0, 0));
        c.due("call 100", ExecutiveDesk.REFUSED, x.call(0, 100));
        c.due("call -1", ExecutiveDesk.REFUSED, x.call(0, -1));
        x.exit();
        c.due("it has ended", ExecutiveDesk.REFUSED, x.call(1, 1));
        c.due("none came", 0, x.actor(0, 4));
    }

    private static void rows(Checks c) {
        ExecutiveDesk x = Checks.desk(1, 0);
        c.due("to one that is ready", 1, x.call(1, 1));
        c.due("to one that runs", 1, x.call(0, 99));
        for (int n = 2; n <= 4; n++) {
            c.due("call " + n, n, x.call(1, 10 * n));
        }
        c.due("one too many", ExecutiveDesk.FULL, x.call(1, 5));
        c.due("REFUSED comes before FULL", ExecutiveDesk.REFUSED, x.call(1, 0));
        c.due("four", 4, x.actor(1, 4));
        c.due("none was delivered", 0, x.actor(1, 5));
        c.due("none was the latest", 0, x.actor(1, 6));
        x.create(0, 0, 0);
        x.await(0, -1, -1, 0, -1);
        c.due("one that may not be alerted waits on", 2, x.call(0, 98));
        c.due("it WAITS", 2, x.actor(0, 0));
        c.due("thread 1 is alerted", ExecutiveDesk.ALERTED, x.await(0, -1, -1, 2, -1));
        c.due("four were delivered", 4, x.actor(1, 5));
        c.due("the latest in order", 40, x.actor(1, 6));
        c.due("its row is empty", 1, x.call(1, 6));
    }

    private static void alerted(Checks c) {
        ExecutiveDesk x = Checks.desk(3, 2, 1);
        x.create(0, 0, 0);
        x.await(0, -1, -1, 2, 50);
        x.await(0, -1, -1, 3, -1);
        c.due("the pointers", 2, x.object(0, 3));
        c.due("thread 1 is alerted", 0, x.call(1, 7));
        c.due("ALERTED", ExecutiveDesk.ALERTED, x.actor(1, 3));
        c.due("thread 1 runs", 1, x.count(0));
        c.due("delivered", 1, x.actor(1, 5));
        c.due("the latest", 7, x.actor(1, 6));
        c.due("the pointers", 1, x.object(0, 3));
        x.level(1);
        c.due("at level 1 it waits", 1, x.call(0, 8));
        c.due("the next one", 2, x.call(0, 9));
        c.due("it WAITS", 2, x.actor(0, 0));
        x.level(0);
        c.due("thread 0 runs", 0, x.count(0));
        c.due("ALERTED", ExecutiveDesk.ALERTED, x.actor(0, 3));
        c.due("delivered", 2, x.actor(0, 5));
        c.due("the latest", 9, x.actor(0, 6));
        c.due("no pointers", 0, x.object(0, 3));
        x.await(0, -1, -1, 2, -1);
        x.exit();
        x.exit();
        c.due("nobody runs", -1, x.count(0));
        c.due("a call needs nobody that runs", 0, x.call(0, 1));
        c.due("thread 0 runs", 0, x.count(0));
    }
}
