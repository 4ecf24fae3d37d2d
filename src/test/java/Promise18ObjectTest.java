public final class Promise18ObjectTest {
    public static void main(String[] args) {
        Checks c = new Checks("Promise18ObjectTest");
        ExecutiveDesk x = Checks.desk(3, 2);
        for (int o : new int[] {-1, 0, 15, 16, Integer.MIN_VALUE, Integer.MAX_VALUE}) {
            c.due("no object " + o, ExecutiveDesk.REFUSED, x.object(o, 0));
        }
        x.create(0, 1, 15);
        x.create(1, 1, 0);
        x.create(2, 1, -1);
        x.create(3, 4, 7);
        x.create(4, 0, 8);
        x.create(5, 7, 9);
        for (int what : new int[] {-1, 8, Integer.MIN_VALUE, Integer.MAX_VALUE}) {
            c.due("no what " + what, ExecutiveDesk.REFUSED, x.object(0, what));
        }
        all(c, x, 0, 0, 15, 1, 0, 1, 0, 0, 0);
        all(c, x, 1, 1, 0, 1, 0, 1, 0, 0, 0);
        all(c, x, 2, 2, -1, 1, 0, 1, 0, 0, 0);
        all(c, x, 3, 3, 7, 1, 0, 4, 0, 0, 0);
        all(c, x, 4, 4, 8, 1, 0, 0, 0, 0, 0);
        all(c, x, 5, 5, 9, 1, 0, 0, -1, 0, 0);
        x.open(15, 1);
        x.open(15, 2);
        x.rule(0, 1, 1, 1);
        x.rule(0, 1, 2, 1);
        x.set(4, 9);
        x.tick(2);
        x.transfer(5, 0, 9, 1);
        x.transfer(5, 0, 9, 1);
        x.transfer(5, 0, 9, -1);
        x.interrupt(5, false);
        all(c, x, 0, 0, 15, 3, 0, 1, 0, 0, 2);
        all(c, x, 1, 1, 0, 1, 2, 1, 0, 0, 0);
        all(c, x, 4, 4, 8, 1, 0, 0, 7, 0, 0);
        all(c, x, 5, 5, 9, 1, 3, 3, 1, 0, 0);
        x.await(2, -1, -1, 0, 0);
        x.set(0, 0);
        all(c, x, 2, 2, -1, 1, 0, 2, 0, 0, 0);
        x.await(0, 4, -1, 0, -1);
        all(c, x, 0, 0, 15, 3, 1, 0, 0, 0, 2);
        all(c, x, 4, 4, 8, 1, 1, 0, 7, 0, 0);
        x.level(1);
        x.interrupt(5, true);
        x.interrupt(5, true);
        all(c, x, 5, 5, 9, 1, 5, 3, 1, 0, 0);
        x.level(0);
        all(c, x, 5, 5, 9, 1, 1, 1, 0, 0, 0);
        x.set(0, 1);
        c.due("thread 0 runs", 0, x.count(0));
        x.exit();
        all(c, x, 2, 2, -1, 1, 0, 0, -1, 1, 0);
        x.close(2);
        c.due("it is gone", ExecutiveDesk.REFUSED, x.object(2, 0));
        allSixteen(c);
        c.end();
    }

    private static void allSixteen(Checks c) {
        ExecutiveDesk x = new ExecutiveDesk();
        for (int p = 0; p < 2; p++) {
            x.process(0);
            x.thread(p, p);
            for (int h = 0; h < 8; h++) {
                x.create(3, h, 8 * p + h);
            }
        }
        for (int o = 0; o < 16; o++) {
            all(c, x, o, 3, o, 1, 0, o % 8, 0, 0, 0);
        }
        c.due("no object 16", ExecutiveDesk.REFUSED, x.object(16, 0));
    }

    private static void all(Checks c, ExecutiveDesk x, int o, int... want) {
        for (int what = 0; what < want.length; what++) {
            c.due("object " + o + " what " + what, want[what], x.object(o, what));
        }
    }
}
