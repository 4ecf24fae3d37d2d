public final class Promise09AwaitTest {
    public static void main(String[] args) {
        Checks c = new Checks("Promise09AwaitTest");
        wrongInputs(c);
        rights(c);
        atOnce(c);
        mutants(c);
        waitsThatGoOn(c);
        alerts(c);
        c.end();
    }

    private static void wrongInputs(Checks c) {
        int refused = ExecutiveDesk.REFUSED;
        ExecutiveDesk x = new ExecutiveDesk();
        c.due("NOBODY comes first", ExecutiveDesk.NOBODY, x.await(-1, -2, 8, 4, 100));
        x.process(0);
        x.thread(0, 0);
        x.create(0, 1, 0);
        x.create(5, 0, 1);
        x.open(0, 7);
        x.create(0, 1, 2);
        c.due("how -1", refused, x.await(0, -1, -1, -1, 0));
        c.due("how 4", refused, x.await(0, -1, -1, 4, 0));
        c.due("timeout -2", refused, x.await(0, -1, -1, 0, -2));
        c.due("timeout 100", refused, x.await(0, -1, -1, 0, 100));
        c.due("h1 -1", refused, x.await(-1, -1, -1, 0, 0));
        c.due("h1 -1, others are right", refused, x.await(-1, 0, 3, 0, 0));
        c.due("h1 not in use", refused, x.await(4, -1, -1, 0, 0));
        c.due("h2 -2", refused, x.await(0, -2, -1, 0, 0));
        c.due("h2 8", refused, x.await(0, 8, -1, 0, 0));
        c.due("h2 not in use", refused, x.await(0, 4, -1, 0, 0));
        c.due("h3 not in use", refused, x.await(0, -1, 7, 0, 0));
        c.due("h3 far off", refused, x.await(0, -1, Integer.MAX_VALUE, 0, 0));
        c.due("h1 a device", refused, x.await(1, -1, -1, 0, 0));
        c.due("h2 a device", refused, x.await(0, 1, -1, 0, 0));
        c.due("h3 a device", refused, x.await(0, -1, 1, 0, 0));
        c.due("h1 and h2 the same handle", refused, x.await(0, 0, -1, 0, 0));
        c.due("h1 and h2 the same object", refused, x.await(0, 2, -1, 0, 0));
        c.due("h1 and h3 the same object", refused, x.await(0, -1, 2, 0, 0));
        c.due("h2 and h3 the same object", refused, x.await(3, 0, 2, 0, 0));
        c.due("all is right", 0, x.await(0, 3, -1, 0, 0));
        x.level(1);
        c.due("HIGH comes before REFUSED", ExecutiveDesk.HIGH, x.await(-1, -1, -1, 0, 0));
        c.due("HIGH", ExecutiveDesk.HIGH, x.await(0, -1, -1, 0, 0));
    }

    private static void rights(Checks c) {
        ExecutiveDesk x = Checks.desk(0);
        x.create(0, 1, 0);
        x.create(0, 1, 1);
        x.create(0, 1, 2);
        x.open(0, 3);
        x.open(1, 4);
        c.due("without WAIT", ExecutiveDesk.DENIED, x.await(3, -1, -1, 0, 0));
        c.due("the second without WAIT", ExecutiveDesk.DENIED, x.await(1, 3, -1, 0, 0));
        c.due("the third without WAIT", ExecutiveDesk.DENIED, x.await(1, 2, 3, 0, 0));
        c.due("REFUSED comes before DENIED", ExecutiveDesk.REFUSED, x.await(3, 7, -1, 0, 0));
        c.due("WAIT alone", 0, x.await(4, -1, -1, 0, 0));
        x.call(0, 5);
        c.due("DENIED comes before ALERTED", ExecutiveDesk.DENIED, x.await(3, -1, -1, 2, 0));
        c.due("nothing was delivered", 0, x.actor(0, 5));
    }

    private static void atOnce(Checks c) {
        ExecutiveDesk x = Checks.desk(0);
        x.create(1, 0, 0);
        x.create(1, 1, 1);
        x.create(3, 2, 2);
        c.due("ANY: the first place that is signaled", 1, x.await(0, 1, 2, 0, 0));
        c.due("it is taken", 0, x.object(1, 4));
        c.due("the others are not", 2, x.object(2, 4));
        c.due("ANY: the third place", 2, x.await(0, 1, 2, 0, 5));
        c.due("one is left", 1, x.object(2, 4));
        c.due("the third place without a second", 2, x.await(0, -1, 2, 0, 0));
        c.due("ANY: none", ExecutiveDesk.TIMEOUT, x.await(0, 1, 2, 0, 0));
        x.set(0, 1);
        x.set(1, 1);
        c.due("ALL: one is missing", ExecutiveDesk.TIMEOUT, x.await(0, 1, 2, 1, 0));
        c.due("nothing is taken", 1, x.object(0, 4));
        c.due("nothing is taken", 1, x.object(1, 4));
        x.set(2, 2);
        c.due("ALL", 0, x.await(2, 1, 0, 1, -1));
        c.due("all are taken: gate", 0, x.object(0, 4));
        c.due("all are taken: gate", 0, x.object(1, 4));
        c.due("all are taken: semaphore", 1, x.object(2, 4));
        c.due("none of these waits went on", ExecutiveDesk.WAITING, x.actor(0, 3));
        c.due("no pointers", 0, x.object(0, 3));
        x.tick(1);
        c.due("used one", 1, x.actor(0, 7));
        x.await(0, -1, -1, 0, 0);
        c.due("a wait that ends at once leaves that", 1, x.actor(0, 7));
    }

    private static void mutants(Checks c) {
        ExecutiveDesk x = Checks.desk(1, 0);
        x.create(2, 0, 0);
        for (int i = 1; i <= 9; i++) {
            c.due("taken again", 0, x.await(0, -1, -1, 0, 0));
            c.due("how often", i, x.object(0, 4));
        }
        c.due("nine times are enough", ExecutiveDesk.TIMEOUT, x.await(0, -1, -1, 0, 0));
        c.due("once less", 8, x.set(0, 1));
        c.due("once more", 0, x.await(0, -1, -1, 0, 0));
        x.create(2, 1, 1);
        x.exit();
        c.due("abandoned", 1, x.object(0, 6));
        c.due("ANY, abandoned", 16, x.await(0, 1, -1, 0, 0));
        c.due("no more", 0, x.object(0, 6));
        c.due("again", 0, x.await(0, 1, -1, 0, 0));
        x.create(0, 0, 2);
        c.due("ANY, abandoned at the third place", 18, x.await(2, -1, 1, 0, 0));
        abandonedAll(c);
    }

    private static void abandonedAll(Checks c) {
        ExecutiveDesk x = Checks.desk(1, 0);
        x.create(2, 1, 0);
        x.create(2, 1, 1);
        x.create(2, 0, 2);
        x.create(0, 0, 3);
        x.exit();
        c.due("ALL, one is not signaled", ExecutiveDesk.TIMEOUT, x.await(0, 1, 3, 1, 0));
        c.due("abandoned still", 1, x.object(0, 6));
        c.due("ALL, two were abandoned", 16, x.await(2, 0, 1, 1, 0));
        c.due("ALL, none is any more", 0, x.await(0, 1, 2, 1, 0));
        c.due("twice", 2, x.object(1, 4));
    }

    private static void waitsThatGoOn(Checks c) {
        ExecutiveDesk x = Checks.desk(2, 1);
        x.create(0, 0, 0);
        x.create(1, 0, 1);
        x.tick(2);
        c.due("it waits", ExecutiveDesk.WAITING, x.await(0, 1, -1, 0, 99));
        c.due("it WAITS", 2, x.actor(0, 0));
        c.due("WAITING", ExecutiveDesk.WAITING, x.actor(0, 3));
        c.due("who begins to wait has used none", 0, x.actor(0, 7));
        c.due("99 ticks", 99, x.actor(0, 8));
        c.due("a pointer", 1, x.object(0, 3));
        c.due("a pointer", 1, x.object(1, 3));
        c.due("the next one runs", 1, x.count(0));
        x.tick(9);
        c.due("90 ticks", 90, x.actor(0, 8));
        x.set(1, 1);
        c.due("the second place", 1, x.actor(0, 3));
        c.due("the gate was taken", 0, x.object(1, 4));
        c.due("no pointer", 0, x.object(0, 3));
        c.due("it does not wait", -1, x.actor(0, 8));
        c.due("it runs", 0, x.count(0));
        c.due("without end", ExecutiveDesk.WAITING, x.await(0, 1, -1, 1, -1));
        c.due("WAITING again", ExecutiveDesk.WAITING, x.actor(0, 3));
        c.due("without end", -1, x.actor(0, 8));
        for (int i = 0; i < 20; i++) {
            x.tick(9);
        }
        c.due("it waits still", 2, x.actor(0, 0));
        c.due("without end still", -1, x.actor(0, 8));
        x.set(1, 1);
        c.due("one of two", 2, x.actor(0, 0));
        c.due("the gate is not taken", 1, x.object(1, 4));
        x.set(0, 1);
        c.due("ALL", 0, x.actor(0, 3));
        c.due("the gate is taken", 0, x.object(1, 4));
        x.set(0, 0);
        c.due("one tick", ExecutiveDesk.WAITING, x.await(0, -1, -1, 0, 1));
        x.tick(1);
        c.due("is over", ExecutiveDesk.TIMEOUT, x.actor(0, 3));
        c.due("it runs", 0, x.count(0));
    }

    private static void alerts(Checks c) {
        ExecutiveDesk x = Checks.desk(2);
        x.create(0, 1, 0);
        x.create(0, 0, 1);
        x.call(0, 3);
        x.call(0, 4);
        c.due("it may not be alerted: satisfied", 0, x.await(0, -1, -1, 0, 0));
        c.due("it may not be alerted: not satisfied", ExecutiveDesk.TIMEOUT, x.await(1, -1, -1, 1, 0));
        c.due("REFUSED comes before", ExecutiveDesk.REFUSED, x.await(7, -1, -1, 2, 0));
        c.due("two calls still", 2, x.actor(0, 4));
        c.due("ALERTED comes before the objects", ExecutiveDesk.ALERTED, x.await(0, -1, -1, 2, 0));
        c.due("no calls", 0, x.actor(0, 4));
        c.due("two were delivered", 2, x.actor(0, 5));
        c.due("the latest", 4, x.actor(0, 6));
        c.due("no wait went on", ExecutiveDesk.WAITING, x.actor(0, 3));
        c.due("it runs", 0, x.actor(0, 0));
        c.due("without calls: satisfied", 0, x.await(0, -1, -1, 3, 0));
        c.due("without calls: TIMEOUT", ExecutiveDesk.TIMEOUT, x.await(1, -1, -1, 3, 0));
        x.call(0, 9);
        c.due("ALL, ALERTED", ExecutiveDesk.ALERTED, x.await(1, -1, -1, 3, 7));
        c.due("three were delivered", 3, x.actor(0, 5));
    }
}
