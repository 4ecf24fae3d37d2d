public final class Promise13TransferTest {
    public static void main(String[] args) {
        Checks c = new Checks("Promise13TransferTest");
        wrongInputs(c);
        rights(c);
        layers(c);
        overAtOnce(c);
        full(c);
        pointers(c);
        c.end();
    }

    private static void wrongInputs(Checks c) {
        int refused = ExecutiveDesk.REFUSED;
        ExecutiveDesk x = new ExecutiveDesk();
        c.due("NOBODY comes first", ExecutiveDesk.NOBODY, x.transfer(-1, -1, 0, -2));
        x.process(0);
        x.thread(0, 0);
        for (int type = 0; type <= 5; type++) {
            x.create(type, 0, -1);
        }
        for (int h : new int[] {-1, 0, 1, 2, 3, 4, 6, 8}) {
            c.due("no handle of a device: " + h, refused, x.transfer(h, 0, 1, -1));
        }
        c.due("place -1", refused, x.transfer(5, -1, 1, -1));
        c.due("place 256", refused, x.transfer(5, 256, 1, -1));
        c.due("length 0", refused, x.transfer(5, 0, 0, -1));
        c.due("length 100", refused, x.transfer(5, 0, 100, -1));
        for (int e : new int[] {-2, 2, 3, 4, 5, 6, 8, Integer.MIN_VALUE}) {
            c.due("no object to set: " + e, refused, x.transfer(5, 0, 1, e));
        }
        c.due("no transfer was made", refused, x.io(0, 0));
        c.due("a note", 0, x.transfer(5, 0, 1, 0));
        c.due("a gate", 1, x.transfer(5, 255, 99, 1));
        c.due("none", 2, x.transfer(5, 0, 1, -1));
        x.level(1);
        c.due("at level 1 too", 3, x.transfer(5, 0, 1, -1));
    }

    private static void rights(Checks c) {
        ExecutiveDesk x = Checks.desk(0);
        x.create(5, 0, 0);
        x.create(0, 0, 1);
        x.open(0, 6);
        x.open(0, 1);
        x.open(1, 5);
        x.open(1, 2);
        c.due("without ASK", ExecutiveDesk.DENIED, x.transfer(2, 0, 1, -1));
        c.due("the object without CHANGE", ExecutiveDesk.DENIED, x.transfer(0, 0, 1, 4));
        c.due("REFUSED comes before DENIED", ExecutiveDesk.REFUSED, x.transfer(2, 0, 0, -1));
        c.due("REFUSED comes before DENIED", ExecutiveDesk.REFUSED, x.transfer(2, 0, 1, 7));
        c.due("ASK alone and CHANGE alone", 0, x.transfer(3, 0, 1, 5));
    }

    /** How a transfer stands behind the layers, and its length. */
    private static void down(Checks c, int layers, int place, int length, int status, int newLength) {
        ExecutiveDesk x = Checks.desk(0);
        x.create(5, layers, -1);
        String what = "layers " + layers + " place " + place + " length " + length;
        c.due(what, 0, x.transfer(0, place, length, -1));
        c.due(what + " stands", status, x.io(0, 0));
        c.due(what + " has length", newLength, x.io(0, 4));
        c.due(what + " with", 0, x.io(0, 1));
        c.due(what + " in the row", status == ExecutiveDesk.PENDING ? 1 : 0, x.object(0, 4));
        c.due(what + " over", status == ExecutiveDesk.PENDING ? 0 : 1, x.count(8));
        x.interrupt(0, true);
        c.due(what + " over then", 1, x.count(8));
        c.due(what + " with then", status == ExecutiveDesk.PENDING ? newLength : 0, x.io(0, 1));
    }

    private static void layers(Checks c) {
        down(c, 0, 255, 99, ExecutiveDesk.PENDING, 99);
        down(c, 4, 255, 99, ExecutiveDesk.PENDING, 99);
        down(c, 1, 255, 64, ExecutiveDesk.PENDING, 64);
        down(c, 1, 0, 65, ExecutiveDesk.TOO_LONG, 65);
        down(c, 5, 0, 99, ExecutiveDesk.TOO_LONG, 99);
        down(c, 2, 0, 99, ExecutiveDesk.PENDING, 99);
        down(c, 2, 29, 99, ExecutiveDesk.PENDING, 99);
        down(c, 2, 30, 99, ExecutiveDesk.PENDING, 98);
        down(c, 2, 127, 1, ExecutiveDesk.PENDING, 1);
        down(c, 2, 127, 99, ExecutiveDesk.PENDING, 1);
        down(c, 2, 128, 1, ExecutiveDesk.BEYOND, 1);
        down(c, 6, 255, 99, ExecutiveDesk.BEYOND, 99);
        down(c, 3, 128, 65, ExecutiveDesk.TOO_LONG, 65);
        down(c, 3, 128, 64, ExecutiveDesk.BEYOND, 64);
        down(c, 3, 100, 64, ExecutiveDesk.PENDING, 28);
        down(c, 7, 100, 65, ExecutiveDesk.TOO_LONG, 65);
    }

    private static void overAtOnce(Checks c) {
        ExecutiveDesk x = Checks.desk(2, 1);
        x.create(5, 3, -1);
        x.create(1, 0, -1);
        x.await(1, -1, -1, 0, -1);
        c.due("thread 1 runs", 1, x.count(0));
        c.due("too long", 0, x.transfer(0, 0, 99, 1));
        c.due("the gate was set, and taken by the one that waits", 0, x.object(1, 4));
        c.due("thread 0 runs", 0, x.count(0));
        c.due("its thread", 1, x.io(0, 2));
        c.due("beyond: the same number again", 0, x.transfer(0, 200, 9, 1));
        c.due("the gate is set", 1, x.object(1, 4));
        c.due("its thread", 0, x.io(0, 2));
        c.due("BEYOND", ExecutiveDesk.BEYOND, x.io(0, 0));
        c.due("no pointers", 0, x.object(0, 3));
        c.due("no pointers", 0, x.object(1, 3));
        c.due("two are over", 2, x.count(8));
    }

    private static void full(Checks c) {
        ExecutiveDesk x = Checks.desk(0);
        x.create(5, 1, 0);
        x.create(5, 1, -1);
        for (int i = 0; i < 8; i++) {
            c.due("transfer " + i, i, x.transfer(i % 2, 0, i + 1, -1));
        }
        c.due("all are pending", ExecutiveDesk.FULL, x.transfer(0, 0, 1, -1));
        c.due("even one that is too long", ExecutiveDesk.FULL, x.transfer(0, 0, 99, -1));
        c.due("REFUSED comes before FULL", ExecutiveDesk.REFUSED, x.transfer(0, 0, 0, -1));
        x.open(0, 6);
        c.due("DENIED comes before FULL", ExecutiveDesk.DENIED, x.transfer(2, 0, 1, -1));
        c.due("four stand in the row", 4, x.object(0, 4));
        c.due("four stand in the other", 4, x.object(1, 4));
        c.due("the first of the other", 1, x.object(1, 5));
        x.interrupt(1, true);
        x.cancel(6);
        c.due("the least number that is not pending", 1, x.transfer(0, 0, 9, -1));
        c.due("what it stands for is new", ExecutiveDesk.PENDING, x.io(1, 0));
        c.due("with 0", 0, x.io(1, 1));
        c.due("its device", 0, x.io(1, 3));
        c.due("then 6", 6, x.transfer(1, 0, 9, -1));
        c.due("full again", ExecutiveDesk.FULL, x.transfer(1, 0, 9, -1));
    }

    private static void pointers(Checks c) {
        ExecutiveDesk x = Checks.desk(0);
        x.create(5, 5, -1);
        x.create(0, 0, 4);
        x.transfer(0, 0, 9, 1);
        x.transfer(0, 0, 8, 1);
        c.due("two to the device", 2, x.object(0, 3));
        c.due("two are to set the note", 2, x.object(1, 3));
        c.due("the note is as it was", 0, x.object(1, 4));
        x.interrupt(0, false);
        c.due("a retry keeps them", 2, x.object(0, 3));
        c.due("a retry keeps them", 2, x.object(1, 3));
        c.due("and sets nothing", 0, x.object(1, 4));
        x.close(1);
        c.due("the note has no name", -1, x.object(1, 1));
        x.interrupt(0, true);
        c.due("the note is set", 1, x.object(1, 4));
        c.due("one pointer", 1, x.object(1, 3));
        x.interrupt(0, true);
        c.due("the note is gone", ExecutiveDesk.REFUSED, x.object(1, 4));
        c.due("the device is there", 0, x.object(0, 3));
    }
}
