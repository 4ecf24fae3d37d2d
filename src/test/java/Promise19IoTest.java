public final class Promise19IoTest {
    public static void main(String[] args) {
        Checks c = new Checks("Promise19IoTest");
        ExecutiveDesk x = Checks.desk(3, 2);
        for (int i : new int[] {-1, 0, 7, 8, Integer.MIN_VALUE, Integer.MAX_VALUE}) {
            c.due("no transfer " + i, ExecutiveDesk.REFUSED, x.io(i, 0));
        }
        x.create(0, 0, -1);
        x.create(5, 7, -1);
        x.transfer(1, 120, 30, 0);
        for (int what : new int[] {-1, 7, Integer.MIN_VALUE, Integer.MAX_VALUE}) {
            c.due("no what " + what, ExecutiveDesk.REFUSED, x.io(0, what));
        }
        c.due("no transfer 1", ExecutiveDesk.REFUSED, x.io(1, 0));
        all(c, x, 0, ExecutiveDesk.PENDING, 0, 0, 1, 8, 0, 0);
        x.interrupt(1, false);
        all(c, x, 0, ExecutiveDesk.PENDING, 0, 0, 1, 8, 0, 1);
        x.await(0, -1, -1, 0, -1);
        x.transfer(1, 0, 5, -1);
        all(c, x, 1, ExecutiveDesk.PENDING, 0, 1, 1, 5, 0, 0);
        x.interrupt(1, true);
        all(c, x, 0, ExecutiveDesk.WELL, 8, 0, 1, 8, 0, 1);
        c.due("thread 0 runs", 0, x.count(0));
        x.cancel(1);
        all(c, x, 1, ExecutiveDesk.PENDING, 0, 1, 1, 5, 1, 0);
        x.interrupt(1, true);
        all(c, x, 1, ExecutiveDesk.CANCELLED, 0, 1, 1, 5, 0, 0);
        x.transfer(1, 0, 65, -1);
        all(c, x, 0, ExecutiveDesk.TOO_LONG, 0, 0, 1, 65, 0, 0);
        x.transfer(1, 128, 64, -1);
        all(c, x, 0, ExecutiveDesk.BEYOND, 0, 0, 1, 64, 0, 0);
        x.transfer(1, 0, 64, -1);
        x.interrupt(1, false);
        x.interrupt(1, false);
        all(c, x, 0, ExecutiveDesk.BROKEN, 0, 0, 1, 64, 0, 1);
        for (int i = 0; i < 8; i++) {
            x.transfer(1, 0, i + 1, -1);
            all(c, x, i, ExecutiveDesk.PENDING, 0, 0, 1, i + 1, 0, 0);
        }
        c.due("no transfer 8", ExecutiveDesk.REFUSED, x.io(8, 0));
        for (int i = 0; i < 8; i++) {
            x.interrupt(1, true);
        }
        x.close(1);
        all(c, x, 7, ExecutiveDesk.WELL, 8, 0, 1, 8, 0, 0);
        c.end();
    }

    private static void all(Checks c, ExecutiveDesk x, int i, int... want) {
        for (int what = 0; what < want.length; what++) {
            c.due("transfer " + i + " what " + what, want[what], x.io(i, what));
        }
    }
}
