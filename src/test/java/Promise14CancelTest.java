public final class Promise14CancelTest {
    public static void main(String[] args) {
        Checks c = new Checks("Promise14CancelTest");
        ExecutiveDesk x = new ExecutiveDesk();
        c.due("NOBODY comes first", ExecutiveDesk.NOBODY, x.cancel(-1));
        x.process(0);
        x.thread(0, 0);
        for (int i : new int[] {-1, 0, 7, 8, Integer.MIN_VALUE, Integer.MAX_VALUE}) {
            c.due("no transfer " + i, ExecutiveDesk.REFUSED, x.cancel(i));
        }
        x.create(5, 1, -1);
        x.create(1, 0, -1);
        x.transfer(0, 0, 1, -1);
        x.transfer(0, 0, 2, 1);
        x.transfer(0, 0, 3, -1);
        x.transfer(0, 0, 99, -1);
        c.due("over already", ExecutiveDesk.REFUSED, x.cancel(3));
        c.due("the first of the row", 0, x.cancel(0));
        c.due("it is to be cancelled", 1, x.io(0, 5));
        c.due("pending", ExecutiveDesk.PENDING, x.io(0, 0));
        c.due("again", 0, x.cancel(0));
        c.due("three stand in the row", 3, x.object(0, 4));
        c.due("one in the middle", 1, x.cancel(1));
        c.due("CANCELLED", ExecutiveDesk.CANCELLED, x.io(1, 0));
        c.due("with 0", 0, x.io(1, 1));
        c.due("not to be", 0, x.io(1, 5));
        c.due("the gate is set", 1, x.object(1, 4));
        c.due("its pointer is gone", 0, x.object(1, 3));
        c.due("two stand in the row", 2, x.object(0, 4));
        c.due("two pointers", 2, x.object(0, 3));
        c.due("two are over", 2, x.count(8));
        c.due("over already", ExecutiveDesk.REFUSED, x.cancel(1));
        x.interrupt(0, true);
        c.due("cancelled when it is finished", ExecutiveDesk.CANCELLED, x.io(0, 0));
        c.due("the next one is not", 0, x.io(2, 5));
        c.due("it is the first now", 2, x.object(0, 5));
        c.due("to be cancelled", 0, x.cancel(2));
        x.transfer(0, 0, 5, -1);
        c.due("a new one under an old number is not to be cancelled", 0, x.io(0, 5));
        x.interrupt(0, false);
        x.interrupt(0, true);
        c.due("nor is it", ExecutiveDesk.WELL, x.io(0, 0));
        byAnotherThread(c);
        c.end();
    }

    private static void byAnotherThread(Checks c) {
        ExecutiveDesk x = new ExecutiveDesk();
        x.process(0);
        x.process(0);
        x.thread(0, 3);
        x.create(5, 0, -1);
        x.create(0, 0, -1);
        x.transfer(0, 0, 1, -1);
        x.transfer(0, 0, 1, 1);
        x.await(1, -1, -1, 0, -1);
        x.thread(1, 1);
        c.due("any thread cancels any transfer", 1, x.cancel(1));
        c.due("who waits for it runs", 0, x.count(0));
        c.due("its wait was satisfied", 0, x.actor(0, 3));
        x.level(1);
        c.due("at level 1 too", 0, x.cancel(0));
        for (int i = 1; i < 8; i++) {
            x.transfer(0, 0, 1, -1);
        }
        c.due("transfer 7", 1, x.cancel(7));
    }
}
