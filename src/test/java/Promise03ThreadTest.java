public final class Promise03ThreadTest {
    public static void main(String[] args) {
        Checks c = new Checks("Promise03ThreadTest");
        wrongInputs(c);
        numbersAndRows(c);
        endedProcess(c);
        c.end();
    }

    private static void wrongInputs(Checks c) {
        ExecutiveDesk x = new ExecutiveDesk();
        c.due("no process 0", ExecutiveDesk.REFUSED, x.thread(0, 0));
        x.process(0);
        c.due("process -1", ExecutiveDesk.REFUSED, x.thread(-1, 0));
        c.due("process 1 is not there", ExecutiveDesk.REFUSED, x.thread(1, 0));
        c.due("process far off", ExecutiveDesk.REFUSED, x.thread(Integer.MAX_VALUE, 0));
        c.due("priority -1", ExecutiveDesk.REFUSED, x.thread(0, -1));
        c.due("priority 8", ExecutiveDesk.REFUSED, x.thread(0, 8));
        c.due("nothing was made", 0, x.count(4));
        for (int t = 0; t < 8; t++) {
            c.due("thread " + t, t, x.thread(0, t));
        }
        c.due("one too many", ExecutiveDesk.FULL, x.thread(0, 0));
        c.due("REFUSED comes before FULL", ExecutiveDesk.REFUSED, x.thread(0, 8));
        c.due("how many", 8, x.count(4));
    }

    private static void numbersAndRows(Checks c) {
        ExecutiveDesk x = Checks.desk(3, 3, 4, 2);
        c.due("the greatest priority runs", 2, x.count(0));
        c.due("thread 2", 0, x.actor(2, 0));
        c.due("thread 0", 1, x.actor(0, 0));
        c.due("thread 1", 1, x.actor(1, 0));
        c.due("its process", 0, x.actor(3, 1));
        c.due("its priority", 2, x.actor(3, 2));
        x.exit();
        c.due("who was put off stands at the front", 0, x.count(0));
        x.exit();
        c.due("then the one that came later", 1, x.count(0));
        x.exit();
        c.due("then the lower priority", 3, x.count(0));
    }

    private static void endedProcess(Checks c) {
        ExecutiveDesk x = Checks.desk(1, 1);
        x.exit();
        c.due("one thread is left: the process has not ended", 2, x.thread(0, 1));
        x.exit();
        x.exit();
        c.due("the last thread has ended", -1, x.count(0));
        c.due("the process has ended", ExecutiveDesk.REFUSED, x.thread(0, 1));
        x.process(0);
        c.due("one without threads has not", 3, x.thread(1, 1));
    }
}
