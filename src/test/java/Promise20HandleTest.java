public final class Promise20HandleTest {
    public static void main(String[] args) {
        Checks c = new Checks("Promise20HandleTest");
        ExecutiveDesk x = new ExecutiveDesk();
        c.due("no process", ExecutiveDesk.REFUSED, x.handle(0, 0, 0));
        x.process(0);
        x.process(0);
        x.thread(0, 1);
        x.thread(1, 0);
        c.due("not in use", ExecutiveDesk.REFUSED, x.handle(0, 0, 0));
        x.create(0, 0, 0);
        x.create(0, 0, 1);
        x.close(0);
        x.create(0, 0, 0);
        x.create(1, 0, 2);
        c.due("its object", 1, x.handle(0, 1, 0));
        c.due("its rights", 7, x.handle(0, 1, 1));
        c.due("opened", 3, x.open(2, 5));
        c.due("its object", 2, x.handle(0, 3, 0));
        c.due("its rights", 5, x.handle(0, 3, 1));
        for (int what : new int[] {-1, 2, Integer.MIN_VALUE, Integer.MAX_VALUE}) {
            c.due("no what " + what, ExecutiveDesk.REFUSED, x.handle(0, 1, what));
        }
        for (int h : new int[] {-1, 4, 7, 8, Integer.MIN_VALUE, Integer.MAX_VALUE}) {
            c.due("no handle " + h, ExecutiveDesk.REFUSED, x.handle(0, h, 0));
        }
        for (int p : new int[] {-1, 1, 2, 3, 4, Integer.MIN_VALUE, Integer.MAX_VALUE}) {
            c.due("not of process " + p, ExecutiveDesk.REFUSED, x.handle(p, 0, 0));
        }
        x.create(0, 0, -1);
        x.create(0, 0, -1);
        x.create(0, 0, -1);
        x.create(0, 0, -1);
        c.due("handle 7", 6, x.handle(0, 7, 0));
        x.close(1);
        c.due("closed", ExecutiveDesk.REFUSED, x.handle(0, 1, 0));
        c.due("closed", ExecutiveDesk.REFUSED, x.handle(0, 1, 1));
        x.open(2, 2);
        c.due("used again", 2, x.handle(0, 1, 0));
        c.due("with new rights", 2, x.handle(0, 1, 1));
        x.process(0);
        x.process(0);
        x.thread(3, 7);
        x.create(0, 0, -1);
        c.due("of process 3", 1, x.handle(3, 0, 0));
        c.due("no process 4", ExecutiveDesk.REFUSED, x.handle(4, 0, 0));
        c.due("no process 5", ExecutiveDesk.REFUSED, x.handle(5, 0, 0));
        c.end();
    }
}
