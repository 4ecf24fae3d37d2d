public final class Promise11LevelTest {
    public static void main(String[] args) {
        Checks c = new Checks("Promise11LevelTest");
        answers(c);
        order(c);
        satisfiedBeforeItIsAlerted(c);
        byNumbers(c);
        noLookMeanwhile(c);
        onlyWhoIsDue(c);
        c.end();
    }

    private static void answers(Checks c) {
        ExecutiveDesk x = new ExecutiveDesk();
        c.due("NOBODY comes first", ExecutiveDesk.NOBODY, x.level(2));
        x.process(0);
        x.thread(0, 0);
        c.due("level -1", ExecutiveDesk.REFUSED, x.level(-1));
        c.due("level 2", ExecutiveDesk.REFUSED, x.level(2));
        c.due("it was 0", 0, x.level(0));
        c.due("it was 0", 0, x.level(1));
        c.due("it is 1", 1, x.count(2));
        c.due("it was 1", 1, x.level(1));
        c.due("level 2", ExecutiveDesk.REFUSED, x.level(2));
        c.due("it is 1 still", 1, x.count(2));
        c.due("it was 1", 1, x.level(0));
        c.due("it is 0", 0, x.count(2));
    }

    private static void order(Checks c) {
        ExecutiveDesk x = Checks.desk(1);
        x.create(5, 5, 0);
        x.create(5, 0, 1);
        x.transfer(0, 0, 10, -1);
        x.transfer(0, 0, 20, -1);
        x.transfer(1, 0, 30, -1);
        x.level(1);
        c.due("0 not well", 0, x.interrupt(0, false));
        c.due("1 well", 0, x.interrupt(1, true));
        c.due("0 well", 0, x.interrupt(0, true));
        c.due("0 not well", 0, x.interrupt(0, false));
        c.due("four wait", 4, x.count(6));
        c.due("three pointers and two transfers", 5, x.object(0, 3));
        c.due("nothing has happened", 0, x.count(8));
        x.level(1);
        c.due("level 1 again: nothing has happened", 0, x.count(8));
        c.due("it was 1", 1, x.level(0));
        c.due("none waits", 0, x.count(6));
        c.due("transfer 1 went well, behind the first's retry", ExecutiveDesk.WELL, x.io(1, 0));
        c.due("transfer 2 went well", ExecutiveDesk.WELL, x.io(2, 0));
        c.due("transfer 0 was retried and broke", ExecutiveDesk.BROKEN, x.io(0, 0));
        c.due("no pointers", 0, x.object(0, 3));
    }

    private static void satisfiedBeforeItIsAlerted(Checks c) {
        ExecutiveDesk x = Checks.desk(2, 1);
        x.create(5, 0, 0);
        x.create(0, 0, 1);
        x.transfer(0, 0, 10, 1);
        x.await(1, -1, -1, 2, -1);
        x.level(1);
        x.call(0, 5);
        x.interrupt(0, true);
        x.level(0);
        c.due("the device came first", 0, x.actor(0, 3));
        c.due("the call is there still", 1, x.actor(0, 4));
        c.due("thread 0 runs", 0, x.count(0));
    }

    private static void byNumbers(Checks c) {
        ExecutiveDesk x = Checks.desk(3, 3, 3, 1);
        x.create(0, 0, 0);
        x.await(0, -1, -1, 2, -1);
        x.await(0, -1, -1, 2, -1);
        x.await(0, -1, -1, 2, -1);
        x.level(1);
        x.call(2, 1);
        x.call(0, 1);
        x.call(1, 1);
        c.due("thread 3 runs", 3, x.count(0));
        x.level(0);
        c.due("thread 0 is the first", 0, x.count(0));
        x.exit();
        c.due("then thread 1", 1, x.count(0));
        x.exit();
        c.due("then thread 2", 2, x.count(0));
    }

    private static void onlyWhoIsDue(Checks c) {
        ExecutiveDesk x = Checks.desk(7, 6, 5, 4, 3, 2, 1, 0);
        x.create(0, 0, 0);
        x.await(0, -1, -1, 2, -1);
        x.await(0, -1, -1, 0, -1);
        for (int t = 2; t < 7; t++) {
            x.await(0, -1, -1, 3, -1);
        }
        x.level(1);
        x.call(1, 1);
        x.call(6, 1);
        x.call(7, 1);
        x.level(0);
        c.due("no calls: thread 0 waits on", 2, x.actor(0, 0));
        c.due("it may not be alerted: thread 1 waits on", 2, x.actor(1, 0));
        c.due("thread 6 was alerted", ExecutiveDesk.ALERTED, x.actor(6, 3));
        c.due("thread 6 runs", 6, x.count(0));
        c.due("thread 7 did not wait", 1, x.actor(7, 4));
    }

    private static void noLookMeanwhile(Checks c) {
        ExecutiveDesk x = Checks.desk(1);
        x.create(0, 0, 0);
        x.level(1);
        x.thread(0, 7);
        c.due("thread 0 runs on", 0, x.count(0));
        x.set(0, 1);
        c.due("thread 0 runs on", 0, x.count(0));
        c.due("thread 1 is ready", 1, x.actor(1, 0));
        x.level(0);
        c.due("thread 1 runs", 1, x.count(0));
        c.due("thread 0 is ready", 1, x.actor(0, 0));
        x.level(1);
        c.due("the level is everybody's", 1, x.count(2));
        c.due("at level 1 nobody exits", ExecutiveDesk.HIGH, x.exit());
    }
}
