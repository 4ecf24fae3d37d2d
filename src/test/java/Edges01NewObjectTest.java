/** Each sentence of promise 1, a new object, that names a boundary case. */
public final class Edges01NewObjectTest {
    public static void main(String[] args) {
        Edges e = new Edges("Edges01NewObjectTest");
        noProcesses(e);
        noObjects(e);
        theClockAt0(e);
        theLevelIs0AtFirst(e);
        nothingElseIsMade(e);
        e.end();
    }

    private static void noProcesses(Edges e) {
        e.sentence("No PROCESSES");
        ExecutiveDesk x = new ExecutiveDesk();
        e.due("how many", 0, x.count(3));
        for (int p = -1; p <= 4; p++) {
            e.due("a thread for process " + p, ExecutiveDesk.REFUSED, x.thread(p, 0));
            for (int h = 0; h < 8; h++) {
                e.due("handle " + h + " of process " + p, ExecutiveDesk.REFUSED, x.handle(p, h, 0));
            }
        }
        e.due("the first one's number", 0, x.process(0));
    }

    private static void noObjects(Edges e) {
        e.sentence("no OBJECTS");
        ExecutiveDesk x = new ExecutiveDesk();
        e.due("how many", 0, x.count(5));
        for (int o = 0; o < 16; o++) {
            for (int what = 0; what <= 7; what++) {
                e.due("object " + o + " what " + what, ExecutiveDesk.REFUSED, x.object(o, what));
            }
            e.due("an interrupt of " + o, ExecutiveDesk.REFUSED, x.interrupt(o, true));
        }
        ExecutiveDesk y = Checks.desk(0);
        for (int name = 0; name < 16; name++) {
            e.due("an object of the name " + name, ExecutiveDesk.NONE, y.open(name, 7));
        }
        y.create(0, 0, -1);
        e.due("the first one's number", 0, y.handle(0, 0, 0));
    }

    private static void theClockAt0(Edges e) {
        e.sentence("the CLOCK at 0");
        e.due("the clock", 0, new ExecutiveDesk().count(1));
        e.due("one tick later", 1, new ExecutiveDesk().tick(1));
    }

    private static void theLevelIs0AtFirst(Edges e) {
        e.sentence("the LEVEL is 1 (0 at first)");
        e.due("the level", 0, new ExecutiveDesk().count(2));
        e.due("what it was", 0, Checks.desk(0).level(1));
    }

    private static void nothingElseIsMade(Edges e) {
        e.sentence("Both are numbered as they are made");
        ExecutiveDesk x = new ExecutiveDesk();
        e.due("who runs", -1, x.count(0));
        e.due("threads", 0, x.count(4));
        e.due("interrupts that wait", 0, x.count(6));
        e.due("threads that began to run", 0, x.count(7));
        e.due("transfers that are over", 0, x.count(8));
        for (int n = 0; n < 8; n++) {
            e.due("thread " + n, ExecutiveDesk.REFUSED, x.actor(n, 0));
            e.due("a call for thread " + n, ExecutiveDesk.REFUSED, x.call(n, 1));
            e.due("transfer " + n, ExecutiveDesk.REFUSED, x.io(n, 0));
        }
    }
}
