/** Each sentence of promise 4, create, that names a boundary case. */
public final class Edges04CreateTest {
    private static final int[] MOST = {1, 1, 1, 9, 0, 7};

    public static void main(String[] args) {
        Edges e = new Edges("Edges04CreateTest");
        e.needsAThread(x -> x.create(0, 0, -1));
        e.needsAThread(x -> x.create(6, 0, -1));
        theLeastFreeHandle(e);
        theLeastNumberThatIsFree(e);
        aNumberThatComesAgain(e);
        allRights(e);
        whatAMeans(e);
        refusedIfTypeIsNot0To5(e);
        refusedIfAIsNotAsSaid(e);
        refusedIfNameIsNotFromMinus1To15(e);
        takenIfAnObjectHasThatName(e);
        fullIfNoHandleIsFree(e);
        fullIfNoObjectIsFree(e);
        theOrderOfRefusals(e);
        e.end();
    }

    /** Process 0 has this many handles, each to an object of its own with the name of the same number. */
    private static ExecutiveDesk withHandles(int n) {
        ExecutiveDesk x = Checks.desk(0);
        for (int h = 0; h < n; h++) {
            x.create(0, 0, h);
        }
        return x;
    }

    /** This many objects are there; process 3, whose thread runs, has no handle. */
    private static ExecutiveDesk withObjects(int n) {
        ExecutiveDesk x = new ExecutiveDesk();
        for (int p = 0; p < 4; p++) {
            x.process(0);
            x.thread(p, p);
            for (int h = 0; h < 8 && p < 2 && 8 * p + h < n; h++) {
                x.create(3, 0, 8 * p + h);
            }
        }
        return x;
    }

    private static void theLeastFreeHandle(Edges e) {
        e.sentence("a HANDLE (the least free one) to it");
        e.each("handle", 0, 7, n -> withHandles(n).create(0, 0, -1), n -> n);
        for (int h = 0; h < 8; h++) {
            ExecutiveDesk x = withHandles(8);
            x.close(h);
            e.due("the only free one", h, x.create(0, 0, -1));
            ExecutiveDesk y = withHandles(8);
            y.close(7);
            y.close(h);
            e.due("the less of two", h, y.create(0, 0, -1));
        }
    }

    private static void theLeastNumberThatIsFree(Edges e) {
        e.sentence("OBJECTS 0..15 (a new one gets the least number that is free)");
        for (int n = 0; n < 16; n++) {
            ExecutiveDesk x = withObjects(n);
            x.create(0, 0, -1);
            e.due("behind " + n, n, x.handle(3, 0, 0));
        }
        ExecutiveDesk x = withHandles(8);
        x.close(6);
        x.close(2);
        x.create(0, 0, -1);
        e.due("the least of two", 2, x.handle(0, 2, 0));
        x.create(0, 0, -1);
        e.due("then the other one", 6, x.handle(0, 6, 0));
    }

    private static void aNumberThatComesAgain(Edges e) {
        e.sentence("A THREAD makes an OBJECT");
        for (int type = 0; type <= 5; type++) {
            for (int before = 0; before <= 5; before++) {
                isNew(e, type, before, usedUp(before, false));
                isNew(e, type, before, usedUp(before, true));
            }
        }
    }

    private static void isNew(Edges e, int type, int before, ExecutiveDesk x) {
        e.due("type " + before + " is gone", 0, x.count(5));
        x.create(type, 0, -1);
        int[] want = {type, -1, 1, 0, 0, type == 2 || type == 5 ? -1 : 0, 0, 0};
        for (int what = 0; what <= 7; what++) {
            e.due("type " + type + " behind " + before + ", what " + what, want[what], x.object(0, what));
        }
        x.tick(9);
        e.due("type " + type + " behind " + before + ", later", 0, x.object(0, 4));
    }

    /**
     * Object 0 was of this type, had a name, four rules and all that its type can have, and is gone; its
     * maker may have ended before.
     */
    private static ExecutiveDesk usedUp(int type, boolean makerHasEnded) {
        ExecutiveDesk x = Checks.desk(3, 2);
        x.create(type, MOST[type], 7);
        for (int n = 0; n < 4; n++) {
            x.rule(0, 0, 0, 7);
        }
        x.set(0, 5);
        x.transfer(0, 0, 9, -1);
        x.interrupt(0, true);
        if (makerHasEnded) {
            x.exit();
        }
        x.close(0);
        return x;
    }

    private static void allRights(Edges e) {
        e.sentence("a HANDLE .. to it, with all RIGHTS");
        for (int type = 0; type <= 5; type++) {
            ExecutiveDesk x = Checks.desk(0);
            x.create(type, 0, -1);
            e.due("type " + type, 7, x.handle(0, 0, 1));
        }
    }

    private static void whatAMeans(Edges e) {
        e.sentence("a: NOTE, GATE: 1 SIGNALED, 0 not");
        for (int type = 0; type <= 1; type++) {
            e.due("type " + type + " with 0", 0, first(type, 0).object(0, 4));
            e.due("type " + type + " with 1", 1, first(type, 1).object(0, 4));
        }
        e.sentence("MUTANT: 1 it has it, once, 0 nobody has it");
        e.due("1: the thread", 0, first(2, 1).object(0, 5));
        e.due("1: once", 1, first(2, 1).object(0, 4));
        e.due("0: nobody", -1, first(2, 0).object(0, 5));
        e.due("0: not at all", 0, first(2, 0).object(0, 4));
        e.sentence("SEMAPHORE: its COUNT");
        e.each("count", 0, 9, n -> first(3, n).object(0, 4), n -> n);
        e.sentence("TIMER: 0, not SIGNALED");
        e.due("not signaled", 0, first(4, 0).object(0, 4));
        e.due("nor due", 0, first(4, 0).object(0, 5));
        e.sentence("DEVICE: 1 FILTER, 2 VOLUME, 4 the FILTER RETRIES (the sum of these)");
        for (int layers = 0; layers <= 7; layers++) {
            ExecutiveDesk x = first(5, layers);
            x.transfer(0, 0, 65, -1);
            boolean filter = (layers & 1) != 0;
            e.due("a filter in " + layers, filter ? ExecutiveDesk.TOO_LONG : ExecutiveDesk.PENDING, x.io(0, 0));
            ExecutiveDesk y = first(5, layers);
            y.transfer(0, 128, 64, -1);
            boolean volume = (layers & 2) != 0;
            e.due("a volume in " + layers, volume ? ExecutiveDesk.BEYOND : ExecutiveDesk.PENDING, y.io(0, 0));
            ExecutiveDesk z = first(5, layers);
            z.transfer(0, 0, 64, -1);
            z.interrupt(0, false);
            boolean retries = (layers & 5) == 5;
            e.due("a filter that retries in " + layers, retries ? ExecutiveDesk.PENDING : ExecutiveDesk.BROKEN, z.io(0, 0));
        }
    }

    private static ExecutiveDesk first(int type, int a) {
        ExecutiveDesk x = Checks.desk(0);
        x.create(type, a, -1);
        return x;
    }

    private static void refusedIfTypeIsNot0To5(Edges e) {
        e.sentence("REFUSED if type is not 0..5");
        e.inside("type", 0, 5, () -> Checks.desk(0), (x, type) -> x.create(type, 0, -1), type -> 0);
        e.inside("the type it has:", 0, 5, () -> Checks.desk(0), (x, type) -> x.create(type, 0, -1) + x.object(0, 0), type -> type);
        e.outside("type", 0, 5, () -> Checks.desk(0), (x, type) -> x.create(type, 0, -1));
    }

    private static void refusedIfAIsNotAsSaid(Edges e) {
        e.sentence("REFUSED if .. a not 0..1 (NOTE, GATE, MUTANT), 0..9, 0, 0..7");
        for (int n = 0; n <= 5; n++) {
            int type = n;
            e.inside("type " + type + " with", 0, MOST[type], () -> Checks.desk(0), (x, a) -> x.create(type, a, -1), a -> 0);
            e.outside("type " + type + " with", 0, MOST[type], () -> Checks.desk(0), (x, a) -> x.create(type, a, -1));
        }
    }

    private static void refusedIfNameIsNotFromMinus1To15(Edges e) {
        e.sentence("REFUSED if .. or name not -1..15 (-1: none)");
        e.inside("name", -1, 15, () -> Checks.desk(0), (x, name) -> x.create(0, 0, name), name -> 0);
        e.inside("the name it has:", -1, 15, () -> Checks.desk(0), (x, name) -> x.create(0, 0, name) + x.object(0, 1), name -> name);
        e.outside("name", -1, 15, () -> Checks.desk(0), (x, name) -> x.create(0, 0, name));
    }

    private static void takenIfAnObjectHasThatName(Edges e) {
        e.sentence("TAKEN if an OBJECT has that NAME");
        for (int n = 0; n < 16; n++) {
            int name = n;
            e.refused("name " + name, ExecutiveDesk.TAKEN, () -> named(name), x -> x.create(1, 1, name));
            e.taken("the next name", 1, () -> named(name), x -> x.create(1, 1, (name + 1) % 16));
        }
        e.refused("an object of another process", ExecutiveDesk.TAKEN, () -> withObjects(16), x -> x.create(3, 0, 15));
        e.taken("none is never taken", 1, () -> named(-1), x -> x.create(0, 0, -1));
        e.sentence("Without HANDLES it has no NAME");
        ExecutiveDesk x = named(4);
        x.close(0);
        e.due("the object is gone", 0, x.create(0, 0, 4));
        ExecutiveDesk y = keptByATransfer();
        e.due("the object is kept by a pointer", 1, y.object(0, 3));
        e.due("its name is not taken", 0, y.create(0, 0, 4));
        e.due("the new one has another number", 1, y.handle(0, 0, 0));
    }

    private static ExecutiveDesk named(int name) {
        ExecutiveDesk x = Checks.desk(0);
        x.create(0, 0, name);
        return x;
    }

    /** Object 0, a device of the name 4, has no handle any more, but a transfer. */
    private static ExecutiveDesk keptByATransfer() {
        ExecutiveDesk x = Checks.desk(0);
        x.create(5, 0, 4);
        x.transfer(0, 0, 1, -1);
        x.close(0);
        return x;
    }

    private static void fullIfNoHandleIsFree(Edges e) {
        e.sentence("FULL if no HANDLE or no OBJECT is free");
        e.taken("the last one", 7, () -> withHandles(7), x -> x.create(0, 0, -1));
        e.refused("none", ExecutiveDesk.FULL, () -> withHandles(8), x -> x.create(0, 0, -1));
        e.refused("none, with a new name", ExecutiveDesk.FULL, () -> withHandles(8), x -> x.create(5, 7, 15));
        e.refused("eight handles to one object", ExecutiveDesk.FULL, Edges04CreateTest::eightToOne, x -> x.create(0, 0, -1));
        ExecutiveDesk x = withHandles(8);
        x.process(0);
        x.thread(1, 7);
        e.due("those of another process are its own", 0, x.create(0, 0, -1));
    }

    private static ExecutiveDesk eightToOne() {
        ExecutiveDesk x = withHandles(1);
        for (int h = 1; h < 8; h++) {
            x.open(0, 1);
        }
        return x;
    }

    private static void fullIfNoObjectIsFree(Edges e) {
        e.sentence("FULL if no HANDLE or no OBJECT is free");
        e.taken("the last one", 0, () -> withObjects(15), x -> x.create(0, 0, -1));
        e.refused("none", ExecutiveDesk.FULL, () -> withObjects(16), x -> x.create(0, 0, -1));
        e.refused("one is kept by a transfer alone", ExecutiveDesk.FULL, Edges04CreateTest::sixteenOneWithoutHandles, x -> x.create(0, 0, -1));
        ExecutiveDesk x = sixteenOneWithoutHandles();
        x.interrupt(0, true);
        x.create(0, 0, -1);
        e.due("that is over: its number is free", 0, x.handle(2, 0, 0));
    }

    /** Sixteen objects; object 0, a device, has no handle but a transfer; process 2, whose thread runs, has none. */
    private static ExecutiveDesk sixteenOneWithoutHandles() {
        ExecutiveDesk x = new ExecutiveDesk();
        x.process(0);
        x.process(0);
        x.process(0);
        x.thread(0, 0);
        x.create(5, 0, -1);
        x.transfer(0, 0, 9, -1);
        x.close(0);
        for (int h = 0; h < 8; h++) {
            x.create(0, 0, -1);
        }
        x.thread(1, 1);
        for (int h = 0; h < 7; h++) {
            x.create(0, 0, -1);
        }
        x.thread(2, 2);
        return x;
    }

    private static void theOrderOfRefusals(Edges e) {
        e.sentence("tested in the order: .. REFUSED, DENIED, then what else is named, in that order");
        e.refused("a wrong a and a name that is taken", ExecutiveDesk.REFUSED, () -> withHandles(1), x -> x.create(0, 2, 0));
        e.refused("a wrong type and a name that is taken", ExecutiveDesk.REFUSED, () -> withHandles(1), x -> x.create(6, 0, 0));
        e.refused("a wrong type and no handle", ExecutiveDesk.REFUSED, () -> withHandles(8), x -> x.create(-1, 0, -1));
        e.refused("a wrong a and no handle", ExecutiveDesk.REFUSED, () -> withHandles(8), x -> x.create(4, 1, -1));
        e.refused("a wrong name and no handle", ExecutiveDesk.REFUSED, () -> withHandles(8), x -> x.create(0, 0, 16));
        e.refused("a wrong name and no object", ExecutiveDesk.REFUSED, () -> withObjects(16), x -> x.create(0, 0, -2));
        e.refused("a name that is taken and no handle", ExecutiveDesk.TAKEN, () -> withHandles(8), x -> x.create(0, 0, 7));
        e.refused("a name that is taken and no object", ExecutiveDesk.TAKEN, () -> withObjects(16), x -> x.create(0, 0, 0));
        e.sentence("HIGH (where said: the LEVEL is 1)");
        ExecutiveDesk x = withHandles(7);
        x.level(1);
        e.due("it is not said here", 7, x.create(0, 0, -1));
    }
}
