public final class Promise21CountTest {
    public static void main(String[] args) {
        Checks c = new Checks("Promise21CountTest");
        ExecutiveDesk x = new ExecutiveDesk();
        for (int what : new int[] {-1, 9, Integer.MIN_VALUE, Integer.MAX_VALUE}) {
            c.due("no what " + what, ExecutiveDesk.REFUSED, x.count(what));
        }
        all(c, x, -1, 0, 0, 0, 0, 0, 0, 0, 0);
        x.process(0);
        x.process(0);
        x.thread(0, 1);
        x.thread(1, 2);
        all(c, x, 1, 0, 0, 2, 2, 0, 0, 2, 0);
        x.create(5, 1, -1);
        x.create(0, 0, -1);
        x.create(0, 0, -1);
        x.close(2);
        x.tick(3);
        x.transfer(0, 0, 99, -1);
        x.transfer(0, 0, 9, -1);
        all(c, x, 1, 3, 0, 2, 2, 2, 0, 2, 1);
        x.level(1);
        x.interrupt(0, true);
        x.interrupt(0, true);
        all(c, x, 1, 3, 1, 2, 2, 2, 2, 2, 1);
        x.level(0);
        all(c, x, 1, 3, 0, 2, 2, 2, 0, 2, 2);
        x.await(1, -1, -1, 0, 2);
        all(c, x, 0, 3, 0, 2, 2, 2, 0, 3, 2);
        x.exit();
        all(c, x, -1, 3, 0, 2, 2, 2, 0, 3, 2);
        x.tick(2);
        all(c, x, 1, 5, 0, 2, 2, 2, 0, 4, 2);
        x.await(1, -1, -1, 0, 1);
        c.due("nobody runs", -1, x.count(0));
        x.tick(1);
        all(c, x, 1, 6, 0, 2, 2, 2, 0, 4, 2);
        x.thread(1, 2);
        x.tick(3);
        all(c, x, 2, 9, 0, 2, 3, 2, 0, 5, 2);
        x.exit();
        x.exit();
        all(c, x, -1, 9, 0, 2, 3, 0, 0, 6, 2);
        c.end();
    }

    private static void all(Checks c, ExecutiveDesk x, int... want) {
        for (int what = 0; what < want.length; what++) {
            c.due("count " + what, want[what], x.count(what));
        }
    }
}
