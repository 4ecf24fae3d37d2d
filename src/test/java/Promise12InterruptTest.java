public final class Promise12InterruptTest {
    public static void main(String[] args) {
        Checks c = new Checks("Promise12InterruptTest");
        wrongInputs(c);
        finished(c);
        retries(c);
        eightWait(c);
        pointersKeepTheDevice(c);
        c.end();
    }

    private static void wrongInputs(Checks c) {
        ExecutiveDesk x = new ExecutiveDesk();
        for (int o : new int[] {-1, 0, 15, 16, Integer.MIN_VALUE, Integer.MAX_VALUE}) {
            c.due("no object " + o, ExecutiveDesk.REFUSED, x.interrupt(o, true));
        }
        x.process(0);
        x.thread(0, 0);
        for (int type = 0; type < 5; type++) {
            x.create(type, 0, -1);
            c.due("no device", ExecutiveDesk.REFUSED, x.interrupt(type, true));
        }
        x.create(5, 0, -1);
        c.due("a device without transfers", 1, x.interrupt(5, true));
        c.due("nothing happened", 0, x.count(8));
        x.close(5);
        c.due("it is gone", ExecutiveDesk.REFUSED, x.interrupt(5, true));
    }

    private static void finished(Checks c) {
        ExecutiveDesk x = Checks.desk(0);
        x.create(5, 3, -1);
        x.create(0, 0, -1);
        x.transfer(0, 100, 40, 1);
        x.transfer(0, 0, 40, -1);
        x.transfer(0, 0, 50, 1);
        c.due("well", 1, x.interrupt(0, true));
        c.due("WELL", ExecutiveDesk.WELL, x.io(0, 0));
        c.due("with its length", 28, x.io(0, 1));
        c.due("the note is set", 1, x.object(1, 4));
        c.due("two stand in the row", 2, x.object(0, 4));
        c.due("the next one is the first", 1, x.object(0, 5));
        x.set(1, 0);
        c.due("not well", 1, x.interrupt(0, false));
        c.due("a filter that does not retry: BROKEN", ExecutiveDesk.BROKEN, x.io(1, 0));
        c.due("with 0", 0, x.io(1, 1));
        c.due("it had no object to set", 0, x.object(1, 4));
        x.cancel(2);
        c.due("pending still", ExecutiveDesk.PENDING, x.io(2, 0));
        c.due("well, but it is to be cancelled", 1, x.interrupt(0, true));
        c.due("CANCELLED", ExecutiveDesk.CANCELLED, x.io(2, 0));
        c.due("with 0", 0, x.io(2, 1));
        c.due("not to be cancelled any more", 0, x.io(2, 5));
        c.due("the note is set", 1, x.object(1, 4));
        c.due("three are over", 3, x.count(8));
        c.due("the row is empty", 0, x.object(0, 4));
    }

    private static void retries(Checks c) {
        for (int layers = 0; layers < 8; layers++) {
            ExecutiveDesk x = Checks.desk(0);
            x.create(5, layers, -1);
            x.transfer(0, 0, 5, -1);
            x.transfer(0, 0, 6, -1);
            x.interrupt(0, false);
            boolean again = (layers & 5) == 5;
            c.due("retried with layers " + layers, again ? 1 : 0, x.io(0, 6));
            c.due("how it stands", again ? ExecutiveDesk.PENDING : ExecutiveDesk.BROKEN, x.io(0, 0));
            c.due("how many stand in the row", again ? 2 : 1, x.object(0, 4));
            c.due("the first one", 1, x.object(0, 5));
            x.interrupt(0, true);
            x.interrupt(0, false);
            c.due("the second time it is over", ExecutiveDesk.BROKEN, x.io(0, 0));
            c.due("both are over", 2, x.count(8));
            c.due("it was retried", again ? 1 : 0, x.io(0, 6));
        }
        ExecutiveDesk x = Checks.desk(0);
        x.create(5, 5, -1);
        x.transfer(0, 0, 5, -1);
        x.cancel(0);
        x.interrupt(0, false);
        c.due("what is to be cancelled is not retried", ExecutiveDesk.CANCELLED, x.io(0, 0));
        c.due("not retried", 0, x.io(0, 6));
        x.transfer(0, 0, 5, -1);
        x.interrupt(0, false);
        x.interrupt(0, true);
        c.due("the retry went well", ExecutiveDesk.WELL, x.io(0, 0));
        c.due("with its length", 5, x.io(0, 1));
    }

    private static void eightWait(Checks c) {
        ExecutiveDesk x = Checks.desk(0);
        x.create(5, 0, -1);
        x.create(0, 0, -1);
        x.level(1);
        for (int n = 1; n <= 8; n++) {
            c.due("it waits", 0, x.interrupt(0, true));
            c.due("how many", n, x.count(6));
            c.due("pointers", n, x.object(0, 3));
        }
        c.due("one too many", ExecutiveDesk.FULL, x.interrupt(0, true));
        c.due("REFUSED comes before FULL", ExecutiveDesk.REFUSED, x.interrupt(1, true));
        c.due("eight", 8, x.count(6));
        x.level(0);
        c.due("none", 0, x.count(6));
        c.due("no pointers", 0, x.object(0, 3));
        c.due("at once", 1, x.interrupt(0, true));
    }

    private static void pointersKeepTheDevice(Checks c) {
        ExecutiveDesk x = Checks.desk(0);
        x.create(5, 0, 3);
        x.level(1);
        x.interrupt(0, true);
        c.due("no handles", 0, x.close(0));
        c.due("the interrupt keeps it", 5, x.object(0, 0));
        c.due("without a name", -1, x.object(0, 1));
        x.interrupt(0, false);
        x.level(0);
        c.due("it is gone", ExecutiveDesk.REFUSED, x.object(0, 0));
        x.create(5, 0, 3);
        x.transfer(0, 0, 9, -1);
        x.close(0);
        c.due("the transfer keeps it", 1, x.object(0, 3));
        c.due("it can be interrupted", 1, x.interrupt(0, true));
        c.due("it is gone", ExecutiveDesk.REFUSED, x.object(0, 0));
        c.due("the transfer went well", ExecutiveDesk.WELL, x.io(0, 0));
        c.due("it was to object 0", 0, x.io(0, 3));
    }
}
