public final class Promise04CreateTest {
    public static void main(String[] args) {
        Checks c = new Checks("Promise04CreateTest");
        edgesOfA(c);
        wrongInputs(c);
        firstStates(c);
        names(c);
        full(c);
        c.end();
    }

    private static void edgesOfA(Checks c) {
        int[] most = {1, 1, 1, 9, 0, 7};
        for (int type = 0; type <= 5; type++) {
            for (int a = -1; a <= 10; a++) {
                ExecutiveDesk x = Checks.desk(0);
                boolean right = a >= 0 && a <= most[type];
                c.due("create type " + type + " with " + a, right ? 0 : ExecutiveDesk.REFUSED, x.create(type, a, -1));
                c.due("objects behind it", right ? 1 : 0, x.count(5));
            }
        }
    }

    private static void wrongInputs(Checks c) {
        ExecutiveDesk x = new ExecutiveDesk();
        c.due("NOBODY comes first", ExecutiveDesk.NOBODY, x.create(9, 9, 99));
        x.process(0);
        c.due("a process alone makes nothing", ExecutiveDesk.NOBODY, x.create(0, 0, -1));
        x.thread(0, 0);
        c.due("type -1", ExecutiveDesk.REFUSED, x.create(-1, 0, -1));
        c.due("type 6", ExecutiveDesk.REFUSED, x.create(6, 0, -1));
        c.due("type far off", ExecutiveDesk.REFUSED, x.create(Integer.MIN_VALUE, 0, -1));
        c.due("name -2", ExecutiveDesk.REFUSED, x.create(0, 0, -2));
        c.due("name 16", ExecutiveDesk.REFUSED, x.create(0, 0, 16));
        c.due("a far off", ExecutiveDesk.REFUSED, x.create(3, Integer.MAX_VALUE, -1));
        c.due("name 15", 0, x.create(0, 0, 15));
        c.due("REFUSED comes before TAKEN", ExecutiveDesk.REFUSED, x.create(0, 2, 15));
        c.due("TAKEN", ExecutiveDesk.TAKEN, x.create(5, 0, 15));
        c.due("at level 1 too", 0, x.level(1));
        c.due("an object at level 1", 1, x.create(0, 0, 0));
    }

    private static void firstStates(Checks c) {
        ExecutiveDesk x = Checks.desk(0);
        int[][] made = {{0, 0}, {0, 1}, {1, 0}, {1, 1}, {2, 0}, {2, 1}, {3, 7}, {4, 0}};
        int[] value = {0, 1, 0, 1, 0, 1, 7, 0};
        int[] detail = {0, 0, 0, 0, -1, 0, 0, 0};
        for (int o = 0; o < 8; o++) {
            c.due("handle " + o, o, x.create(made[o][0], made[o][1], o + 3));
            c.due("its object", o, x.handle(0, o, 0));
            c.due("all rights", 7, x.handle(0, o, 1));
            c.due("type of " + o, made[o][0], x.object(o, 0));
            c.due("name of " + o, o + 3, x.object(o, 1));
            c.due("handles of " + o, 1, x.object(o, 2));
            c.due("pointers of " + o, 0, x.object(o, 3));
            c.due("value of " + o, value[o], x.object(o, 4));
            c.due("detail of " + o, detail[o], x.object(o, 5));
            c.due("abandoned " + o, 0, x.object(o, 6));
            c.due("rules of " + o, 0, x.object(o, 7));
        }
        ExecutiveDesk y = Checks.desk(0, 1);
        y.create(2, 1, -1);
        c.due("the mutant is had by the thread that runs", 1, y.object(0, 5));
        y.create(5, 7, -1);
        c.due("a device has an empty row", 0, y.object(1, 4));
        c.due("a device has no first transfer", -1, y.object(1, 5));
    }

    private static void names(Checks c) {
        ExecutiveDesk x = Checks.desk(0);
        c.due("without a name", 0, x.create(0, 0, -1));
        c.due("another one without a name", 1, x.create(0, 0, -1));
        c.due("its name", -1, x.object(1, 1));
        c.due("name 0", 2, x.create(0, 0, 0));
        c.due("name 0 again", ExecutiveDesk.TAKEN, x.create(1, 0, 0));
        x.close(2);
        c.due("the name is free again", 2, x.create(1, 0, 0));
    }

    private static void full(Checks c) {
        ExecutiveDesk x = new ExecutiveDesk();
        x.process(0);
        x.process(0);
        x.process(0);
        x.thread(0, 0);
        for (int h = 0; h < 8; h++) {
            c.due("handle " + h, h, x.create(0, 0, h));
        }
        c.due("TAKEN comes before FULL", ExecutiveDesk.TAKEN, x.create(0, 0, 7));
        c.due("no handle is free", ExecutiveDesk.FULL, x.create(0, 0, 8));
        x.close(3);
        x.close(5);
        c.due("the least free handle", 3, x.create(1, 1, -1));
        c.due("the least free object", 3, x.handle(0, 3, 0));
        c.due("the next free handle", 5, x.create(0, 0, -1));
        x.thread(1, 1);
        for (int h = 0; h < 8; h++) {
            c.due("handle " + h + " of process 1", h, x.create(0, 0, -1));
        }
        c.due("objects", 16, x.count(5));
        x.thread(2, 2);
        c.due("no object is free", ExecutiveDesk.FULL, x.create(0, 0, -1));
        c.due("objects still", 16, x.count(5));
        x.exit();
        x.close(7);
        c.due("an object is free again", 7, x.create(5, 0, -1));
        c.due("it is the last", 15, x.handle(1, 7, 0));
        newObjectsAreNew(c);
    }

    private static void newObjectsAreNew(Checks c) {
        ExecutiveDesk x = Checks.desk(0, 0);
        x.create(2, 1, 4);
        x.create(2, 0, 5);
        x.rule(1, 0, 0, 1);
        x.thread(0, 5);
        x.await(1, -1, -1, 0, 0);
        x.exit();
        c.due("abandoned", 1, x.object(1, 6));
        c.due("closed", 0, x.close(1));
        c.due("a new one in its place", 1, x.create(2, 0, -1));
        c.due("not abandoned", 0, x.object(1, 6));
        c.due("nobody has it", -1, x.object(1, 5));
        c.due("without rules", 0, x.object(1, 7));
        c.due("without a name", -1, x.object(1, 1));
        x.close(1);
        x.create(2, 1, -1);
        x.close(1);
        x.create(2, 0, -1);
        c.due("nobody has it", -1, x.object(1, 5));
        c.due("not at all", 0, x.object(1, 4));
        x.close(1);
        x.create(4, 0, -1);
        x.set(1, 2);
        x.close(1);
        x.create(4, 0, -1);
        c.due("a new timer is not due", 0, x.object(1, 5));
        x.tick(3);
        c.due("nor signaled later", 0, x.object(1, 4));
    }
}
