public final class Promise06CloseTest {
    public static void main(String[] args) {
        Checks c = new Checks("Promise06CloseTest");
        ExecutiveDesk x = new ExecutiveDesk();
        c.due("NOBODY comes first", ExecutiveDesk.NOBODY, x.close(-1));
        x.process(0);
        x.process(0);
        x.thread(0, 0);
        for (int h : new int[] {-1, 0, 7, 8, Integer.MIN_VALUE, Integer.MAX_VALUE}) {
            c.due("no handle " + h, ExecutiveDesk.REFUSED, x.close(h));
        }
        x.create(0, 0, 5);
        x.open(5, 1);
        x.thread(1, 1);
        c.due("the handles of another process are not its own", ExecutiveDesk.REFUSED, x.close(0));
        x.open(5, 2);
        c.due("three handles, two are left", 2, x.close(0));
        c.due("it is not in use", ExecutiveDesk.REFUSED, x.close(0));
        c.due("handles", 2, x.object(0, 2));
        x.exit();
        c.due("one is left", 1, x.close(0));
        c.due("it has its name still", 5, x.object(0, 1));
        c.due("none is left", 0, x.close(1));
        c.due("it is gone", ExecutiveDesk.REFUSED, x.object(0, 0));
        c.due("no objects", 0, x.count(5));
        c.due("the name is gone", ExecutiveDesk.NONE, x.open(5, 1));
        pointersKeepIt(c);
        c.end();
    }

    private static void pointersKeepIt(Checks c) {
        ExecutiveDesk x = Checks.desk(1, 0);
        x.create(0, 0, 5);
        x.await(0, -1, -1, 0, 3);
        c.due("thread 1 closes the handle", 0, x.close(0));
        c.due("the wait keeps the object", 0, x.object(0, 0));
        c.due("it has no name", -1, x.object(0, 1));
        c.due("no handles", 0, x.object(0, 2));
        c.due("one pointer", 1, x.object(0, 3));
        c.due("it can't be opened", ExecutiveDesk.NONE, x.open(5, 1));
        c.due("the name is free for another one", 0, x.create(0, 0, 5));
        c.due("with the next number", 1, x.handle(0, 0, 0));
        x.tick(3);
        c.due("the wait is over: it is gone", ExecutiveDesk.REFUSED, x.object(0, 0));
        c.due("the wait ended with", ExecutiveDesk.TIMEOUT, x.actor(0, 3));
        c.due("its number is free", 1, x.create(0, 0, -1));
        c.due("and is used again", 0, x.handle(0, 1, 0));
    }
}
