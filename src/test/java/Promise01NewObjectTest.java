public final class Promise01NewObjectTest {
    public static void main(String[] args) {
        Checks c = new Checks("Promise01NewObjectTest");
        ExecutiveDesk x = new ExecutiveDesk();
        c.due("nobody runs", -1, x.count(0));
        for (int what = 1; what <= 8; what++) {
            c.due("count " + what, 0, x.count(what));
        }
        for (int o = 0; o < 16; o++) {
            c.due("no object " + o, ExecutiveDesk.REFUSED, x.object(o, 0));
        }
        for (int i = 0; i < 8; i++) {
            c.due("no thread " + i, ExecutiveDesk.REFUSED, x.actor(i, 0));
            c.due("no transfer " + i, ExecutiveDesk.REFUSED, x.io(i, 0));
            c.due("no handle " + i, ExecutiveDesk.REFUSED, x.handle(0, i, 0));
        }
        c.due("no process yet", ExecutiveDesk.REFUSED, x.thread(0, 0));
        theDesksAreApart(c);
        c.end();
    }

    private static void theDesksAreApart(Checks c) {
        ExecutiveDesk x = Checks.desk(1);
        ExecutiveDesk y = new ExecutiveDesk();
        x.create(0, 1, 3);
        x.tick(5);
        x.level(1);
        c.due("the other desk has no process", 0, y.count(3));
        c.due("the other desk has no object", 0, y.count(5));
        c.due("the other desk's clock", 0, y.count(1));
        c.due("the other desk's level", 0, y.count(2));
        c.due("its own clock", 5, x.count(1));
    }
}
