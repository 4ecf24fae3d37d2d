public final class Promise17ActorTest {
    public static void main(String[] args) {
        Checks c = new Checks("Promise17ActorTest");
        ExecutiveDesk x = new ExecutiveDesk();
        c.due("no thread 0", ExecutiveDesk.REFUSED, x.actor(0, 0));
        x.process(0);
        x.process(0);
        x.thread(1, 6);
        x.thread(0, 3);
        for (int t : new int[] {-1, 2, 8, Integer.MIN_VALUE, Integer.MAX_VALUE}) {
            c.due("no thread " + t, ExecutiveDesk.REFUSED, x.actor(t, 0));
        }
        for (int what : new int[] {-1, 9, Integer.MIN_VALUE, Integer.MAX_VALUE}) {
            c.due("no what " + what, ExecutiveDesk.REFUSED, x.actor(0, what));
        }
        all(c, x, 0, 0, 1, 6, ExecutiveDesk.WAITING, 0, 0, 0, 0, -1);
        all(c, x, 1, 1, 0, 3, ExecutiveDesk.WAITING, 0, 0, 0, 0, -1);
        x.call(0, 55);
        x.call(0, 66);
        x.tick(2);
        all(c, x, 0, 0, 1, 6, ExecutiveDesk.WAITING, 2, 0, 0, 2, -1);
        x.create(0, 0, 0);
        x.await(0, -1, -1, 0, 7);
        all(c, x, 0, 2, 1, 6, ExecutiveDesk.WAITING, 2, 0, 0, 0, 7);
        all(c, x, 1, 0, 0, 3, ExecutiveDesk.WAITING, 0, 0, 0, 0, -1);
        x.tick(7);
        all(c, x, 0, 0, 1, 6, ExecutiveDesk.TIMEOUT, 2, 0, 0, 0, -1);
        all(c, x, 1, 1, 0, 3, ExecutiveDesk.WAITING, 0, 0, 0, 0, -1);
        x.await(0, -1, -1, 2, 7);
        all(c, x, 0, 0, 1, 6, ExecutiveDesk.TIMEOUT, 0, 2, 66, 0, -1);
        x.await(0, -1, -1, 2, -1);
        all(c, x, 0, 2, 1, 6, ExecutiveDesk.WAITING, 0, 2, 66, 0, -1);
        x.call(0, 77);
        all(c, x, 0, 0, 1, 6, ExecutiveDesk.ALERTED, 0, 3, 77, 0, -1);
        x.call(0, 88);
        x.exit();
        all(c, x, 0, 3, 1, 6, ExecutiveDesk.ALERTED, 0, 3, 77, 0, -1);
        c.end();
    }

    private static void all(Checks c, ExecutiveDesk x, int t, int... want) {
        for (int what = 0; what < want.length; what++) {
            c.due("thread " + t + " what " + what, want[what], x.actor(t, what));
        }
    }
}
