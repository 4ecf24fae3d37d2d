public final class Promise08SetTest {
    public static void main(String[] args) {
        Checks c = new Checks("Promise08SetTest");
        wrongInputs(c);
        noteAndGate(c);
        semaphore(c);
        mutant(c);
        timer(c);
        c.end();
    }

    private static void wrongInputs(Checks c) {
        int[] least = {0, 0, 1, 1, 0};
        int[] most = {1, 1, 1, 9, 99};
        ExecutiveDesk x = new ExecutiveDesk();
        c.due("NOBODY comes first", ExecutiveDesk.NOBODY, x.set(-1, -1));
        x.process(0);
        x.thread(0, 0);
        c.due("no handle", ExecutiveDesk.REFUSED, x.set(0, 1));
        for (int type = 0; type <= 4; type++) {
            ExecutiveDesk y = Checks.desk(0);
            y.create(type, type == 2 ? 1 : 0, 0);
            y.open(0, 5);
            c.due("just below, type " + type, ExecutiveDesk.REFUSED, y.set(0, least[type] - 1));
            c.due("just above, type " + type, ExecutiveDesk.REFUSED, y.set(0, most[type] + 1));
            c.due("far off, type " + type, ExecutiveDesk.REFUSED, y.set(0, Integer.MIN_VALUE));
            c.due("REFUSED comes before DENIED, type " + type, ExecutiveDesk.REFUSED, y.set(1, most[type] + 1));
            c.due("DENIED, type " + type, ExecutiveDesk.DENIED, y.set(1, 1));
            c.due("nothing has changed", type == 2 ? 1 : 0, y.object(0, 4));
            c.due("the least, type " + type, 0, y.set(0, least[type]));
        }
        ExecutiveDesk y = Checks.desk(0);
        y.create(5, 0, 0);
        c.due("a device", ExecutiveDesk.REFUSED, y.set(0, 1));
        y.open(0, 1);
        c.due("a device without CHANGE", ExecutiveDesk.REFUSED, y.set(1, 1));
        y.create(3, 9, 1);
        y.open(1, 5);
        c.due("DENIED comes before LIMIT", ExecutiveDesk.DENIED, y.set(3, 9));
        y.create(2, 0, 2);
        y.open(2, 5);
        c.due("DENIED comes before NOT_OWNER", ExecutiveDesk.DENIED, y.set(5, 1));
    }

    private static void noteAndGate(Checks c) {
        for (int type = 0; type <= 1; type++) {
            ExecutiveDesk x = Checks.desk(0);
            x.create(type, 0, 0);
            c.due("set, was not signaled", 0, x.set(0, 1));
            c.due("it is", 1, x.object(0, 4));
            c.due("set again, was signaled", 1, x.set(0, 1));
            c.due("it is still", 1, x.object(0, 4));
            c.due("unset, was signaled", 1, x.set(0, 0));
            c.due("it is not", 0, x.object(0, 4));
            c.due("unset again", 0, x.set(0, 0));
        }
        ExecutiveDesk x = Checks.desk(3, 2, 1);
        x.create(0, 0, 0);
        x.create(1, 0, 1);
        x.await(1, -1, -1, 0, -1);
        x.await(1, -1, -1, 0, -1);
        c.due("the gate is set by thread 2", 0, x.set(1, 1));
        c.due("one alone goes through", 0, x.object(1, 4));
        c.due("the first one", 0, x.count(0));
        c.due("the second one waits", 2, x.actor(1, 0));
        x.await(0, -1, -1, 0, -1);
        c.due("again", 0, x.set(1, 1));
        c.due("the second one runs", 1, x.count(0));
        x.await(0, -1, -1, 0, -1);
        c.due("the note is set by thread 2", 0, x.set(0, 1));
        c.due("both go through: thread 0", 0, x.actor(0, 0));
        c.due("both go through: thread 1", 1, x.actor(1, 0));
        c.due("it stays", 1, x.object(0, 4));
    }

    private static void semaphore(Checks c) {
        ExecutiveDesk x = Checks.desk(3, 2, 1);
        x.create(3, 0, 0);
        c.due("5 more", 0, x.set(0, 5));
        c.due("5", 5, x.object(0, 4));
        c.due("5 more would be 10", ExecutiveDesk.LIMIT, x.set(0, 5));
        c.due("5 still", 5, x.object(0, 4));
        c.due("4 more", 5, x.set(0, 4));
        c.due("9", 9, x.object(0, 4));
        c.due("1 more would be 10", ExecutiveDesk.LIMIT, x.set(0, 1));
        for (int i = 0; i < 9; i++) {
            c.due("taken", 0, x.await(0, -1, -1, 0, 0));
        }
        c.due("none is left", ExecutiveDesk.TIMEOUT, x.await(0, -1, -1, 0, 0));
        x.await(0, -1, -1, 0, -1);
        x.await(0, -1, -1, 0, -1);
        c.due("3 more, two wait", 0, x.set(0, 3));
        c.due("one is left", 1, x.object(0, 4));
        c.due("thread 0 runs", 0, x.actor(0, 0));
        c.due("thread 1 is ready", 1, x.actor(1, 0));
    }

    private static void mutant(Checks c) {
        ExecutiveDesk x = Checks.desk(1, 1);
        x.create(2, 1, 0);
        x.await(0, -1, -1, 0, 0);
        c.due("had twice", 2, x.object(0, 4));
        c.due("once less", 1, x.set(0, 1));
        c.due("thread 0 has it still", 0, x.object(0, 5));
        x.create(0, 0, 1);
        x.await(1, -1, -1, 0, 1);
        c.due("thread 1 does not have it", ExecutiveDesk.NOT_OWNER, x.set(0, 1));
        c.due("nor can it take it", ExecutiveDesk.TIMEOUT, x.await(0, -1, -1, 0, 0));
        x.await(0, -1, -1, 0, -1);
        x.tick(1);
        c.due("thread 0 runs", 0, x.count(0));
        c.due("the last time", 0, x.set(0, 1));
        c.due("thread 1 has it now", 1, x.object(0, 5));
        c.due("once", 1, x.object(0, 4));
        c.due("thread 0 does not", ExecutiveDesk.NOT_OWNER, x.set(0, 1));
        x.exit();
        c.due("thread 1 gives it back", 0, x.set(0, 1));
        c.due("nobody has it", -1, x.object(0, 5));
        c.due("not at all", 0, x.object(0, 4));
        c.due("given back, not abandoned", 0, x.object(0, 6));
        c.due("nobody has it", ExecutiveDesk.NOT_OWNER, x.set(0, 1));
    }

    private static void timer(Checks c) {
        ExecutiveDesk x = Checks.desk(1);
        x.create(4, 0, 0);
        c.due("in 2 ticks", 0, x.set(0, 2));
        c.due("due in 2", 2, x.object(0, 5));
        x.tick(1);
        c.due("due in 1", 1, x.object(0, 5));
        c.due("not yet", 0, x.object(0, 4));
        x.tick(1);
        c.due("signaled", 1, x.object(0, 4));
        c.due("no more due", 0, x.object(0, 5));
        x.tick(1);
        c.due("nor later", 0, x.object(0, 5));
        c.due("it stays when it is taken", 0, x.await(0, -1, -1, 0, 0));
        c.due("signaled still", 1, x.object(0, 4));
        c.due("set anew, was signaled", 1, x.set(0, 99));
        c.due("not signaled now", 0, x.object(0, 4));
        c.due("due in 99", 99, x.object(0, 5));
        x.tick(5);
        c.due("set anew before it was due", 0, x.set(0, 3));
        c.due("due in 3", 3, x.object(0, 5));
        c.due("stopped", 0, x.set(0, 0));
        c.due("not due", 0, x.object(0, 5));
        x.tick(9);
        c.due("and not signaled", 0, x.object(0, 4));
        x.set(0, 1);
        x.tick(1);
        c.due("stopped when signaled", 1, x.set(0, 0));
        c.due("not signaled any more", 0, x.object(0, 4));
    }
}
