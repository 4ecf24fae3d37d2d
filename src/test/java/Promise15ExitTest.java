public final class Promise15ExitTest {
    public static void main(String[] args) {
        Checks c = new Checks("Promise15ExitTest");
        answers(c);
        mutants(c);
        mutantsByNumbers(c);
        transfers(c);
        transfersByNumbers(c);
        handles(c);
        c.end();
    }

    private static void answers(Checks c) {
        ExecutiveDesk x = new ExecutiveDesk();
        c.due("nobody", ExecutiveDesk.NOBODY, x.exit());
        x.process(0);
        x.thread(0, 1);
        x.thread(0, 2);
        x.call(1, 3);
        x.tick(2);
        x.level(1);
        c.due("at level 1", ExecutiveDesk.HIGH, x.exit());
        c.due("it runs on", 1, x.count(0));
        x.level(0);
        c.due("its number", 1, x.exit());
        c.due("ENDED", 3, x.actor(1, 0));
        c.due("its calls are gone", 0, x.actor(1, 4));
        c.due("none was delivered", 0, x.actor(1, 5));
        c.due("its process", 0, x.actor(1, 1));
        c.due("its priority", 2, x.actor(1, 2));
        c.due("the next one runs", 0, x.count(0));
        c.due("threads", 2, x.count(4));
        c.due("its number", 0, x.exit());
        c.due("nobody", -1, x.count(0));
        c.due("nobody", ExecutiveDesk.NOBODY, x.exit());
    }

    private static void mutants(Checks c) {
        ExecutiveDesk x = Checks.desk(3, 2, 1);
        x.create(2, 1, -1);
        x.await(0, -1, -1, 0, 0);
        x.create(2, 0, -1);
        x.create(2, 1, -1);
        x.exit();
        c.due("abandoned", 1, x.object(0, 6));
        c.due("nobody has it", -1, x.object(0, 5));
        c.due("not at all", 0, x.object(0, 4));
        c.due("one that it did not have is not abandoned", 0, x.object(1, 6));
        c.due("abandoned", 1, x.object(2, 6));
        x.await(0, 1, -1, 1, 0);
        x.create(0, 0, -1);
        x.await(3, -1, -1, 0, 1);
        c.due("thread 2 waits for the mutant", ExecutiveDesk.WAITING, x.await(0, -1, -1, 0, -1));
        x.tick(1);
        x.exit();
        c.due("it has it, and is told", 16, x.actor(2, 3));
        c.due("thread 2 has it", 2, x.object(0, 5));
        c.due("once", 1, x.object(0, 4));
        c.due("it is abandoned no more", 0, x.object(0, 6));
        c.due("the other one is", 1, x.object(1, 6));
    }

    private static void mutantsByNumbers(Checks c) {
        ExecutiveDesk x = Checks.desk(3, 2);
        x.create(2, 0, -1);
        x.create(2, 0, -1);
        x.create(0, 0, -1);
        x.await(2, -1, -1, 0, 1);
        x.await(0, 1, -1, 1, 0);
        x.tick(1);
        c.due("thread 0 waits for mutant 1, then 0", ExecutiveDesk.WAITING, x.await(1, 0, -1, 0, -1));
        x.exit();
        c.due("mutant 0 was the first that it got", 17, x.actor(0, 3));
        c.due("it has mutant 0", 0, x.object(0, 5));
        c.due("nobody has mutant 1", -1, x.object(1, 5));
    }

    private static void transfers(Checks c) {
        ExecutiveDesk x = Checks.desk(3, 2);
        x.create(5, 0, -1);
        x.create(1, 0, -1);
        x.transfer(0, 0, 1, 1);
        x.create(0, 0, -1);
        x.await(2, -1, -1, 0, 1);
        x.transfer(0, 0, 2, -1);
        x.tick(1);
        x.transfer(0, 0, 3, 1);
        x.transfer(0, 0, 4, -1);
        x.exit();
        c.due("the first of the row is to be cancelled", 1, x.io(0, 5));
        c.due("it is pending", ExecutiveDesk.PENDING, x.io(0, 0));
        c.due("another thread's goes on", ExecutiveDesk.PENDING, x.io(1, 0));
        c.due("and is not to be cancelled", 0, x.io(1, 5));
        c.due("cancelled", ExecutiveDesk.CANCELLED, x.io(2, 0));
        c.due("cancelled", ExecutiveDesk.CANCELLED, x.io(3, 0));
        c.due("the gate is set", 1, x.object(1, 4));
        c.due("two stand in the row", 2, x.object(0, 4));
        x.interrupt(0, true);
        c.due("cancelled", ExecutiveDesk.CANCELLED, x.io(0, 0));
        c.due("its thread has ended", 0, x.io(0, 2));
    }

    private static void transfersByNumbers(Checks c) {
        ExecutiveDesk x = Checks.desk(3, 2);
        x.create(5, 5, -1);
        x.create(0, 0, -1);
        x.create(0, 0, -1);
        x.create(0, 0, -1);
        x.transfer(0, 0, 9, -1);
        x.transfer(0, 0, 1, 2);
        x.transfer(0, 0, 1, 1);
        x.thread(0, 7);
        x.await(1, 2, -1, 0, -1);
        x.exit();
        c.due("transfer 1 was over before transfer 2", 1, x.actor(2, 3));
        c.due("the note of transfer 2 is set too", 1, x.object(1, 4));
        c.due("who waited runs", 2, x.count(0));
        ExecutiveDesk y = Checks.desk(3, 2);
        y.create(5, 5, -1);
        y.transfer(0, 0, 1, -1);
        y.transfer(0, 0, 1, -1);
        y.interrupt(0, false);
        y.exit();
        c.due("transfer 0 stood behind transfer 1", ExecutiveDesk.CANCELLED, y.io(0, 0));
        c.due("transfer 1 is to be cancelled", 1, y.io(1, 5));
    }

    private static void handles(Checks c) {
        ExecutiveDesk x = new ExecutiveDesk();
        x.process(0);
        x.process(0);
        x.thread(0, 3);
        x.thread(0, 2);
        x.thread(1, 1);
        x.create(0, 0, 0);
        x.create(5, 0, 1);
        x.create(2, 1, 2);
        x.transfer(1, 0, 7, 0);
        x.exit();
        c.due("thread 1 is left: the handles are there", 3, x.count(5));
        c.due("handle 0", 0, x.handle(0, 0, 0));
        x.exit();
        c.due("the process has ended: no handle 0", ExecutiveDesk.REFUSED, x.handle(0, 0, 0));
        c.due("no handle 1", ExecutiveDesk.REFUSED, x.handle(0, 1, 0));
        c.due("no handle 2", ExecutiveDesk.REFUSED, x.handle(0, 2, 1));
        c.due("the mutant is gone", ExecutiveDesk.REFUSED, x.object(2, 0));
        c.due("the transfer keeps the device", 5, x.object(1, 0));
        c.due("and the note", 0, x.object(0, 0));
        c.due("without handles", 0, x.object(0, 2));
        c.due("without a name", ExecutiveDesk.NONE, x.open(0, 1));
        c.due("the other process goes on", 2, x.count(0));
        x.interrupt(1, true);
        c.due("all are gone", 0, x.count(5));
        c.due("no new thread", ExecutiveDesk.REFUSED, x.thread(0, 1));
        c.due("the other process may have one", 3, x.thread(1, 1));
    }
}
