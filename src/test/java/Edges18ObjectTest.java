/** Each sentence of promise 18, object, that names a boundary case. */
public final class Edges18ObjectTest {
    public static void main(String[] args) {
        Edges e = new Edges("Edges18ObjectTest");
        refusedIfItIsNotThere(e);
        refusedForOthers(e);
        itsType(e);
        itsName(e);
        itsHandles(e);
        itsPointers(e);
        what4(e);
        what5(e);
        anAbandonedMutant(e);
        howManyRules(e);
        e.end();
    }

    /** This many objects of this type, of the name of their number. */
    private static ExecutiveDesk withObjects(int type, int n) {
        ExecutiveDesk x = new ExecutiveDesk();
        for (int p = 0; p < 2; p++) {
            x.process(0);
            x.thread(p, p);
            for (int h = 0; h < 8 && 8 * p + h < n; h++) {
                x.create(type, 0, 8 * p + h);
            }
        }
        return x;
    }

    private static ExecutiveDesk first(int type, int a) {
        ExecutiveDesk x = Checks.desk(3, 2);
        x.create(type, a, -1);
        return x;
    }

    private static void refusedIfItIsNotThere(Edges e) {
        e.sentence("REFUSED if it is not there");
        for (int made = 0; made <= 16; made++) {
            int n = made;
            e.outside("o of " + n + ":", 0, n - 1, () -> withObjects(3, n), (x, o) -> x.object(o, 0));
            e.inside("o of " + n + ":", 0, n - 1, () -> withObjects(3, n), (x, o) -> x.object(o, 0), o -> 3);
        }
        for (int n = 0; n <= 7; n++) {
            int what = n;
            e.refused("it is gone, what " + what, ExecutiveDesk.REFUSED, () -> {
                ExecutiveDesk x = first(0, 1);
                x.close(0);
                return x;
            }, x -> x.object(0, what));
        }
    }

    private static void refusedForOthers(Edges e) {
        e.sentence("REFUSED if it is not there, or for others");
        for (int type = 0; type <= 5; type++) {
            int of = type;
            e.outside("what of type " + type + ":", 0, 7, () -> first(of, 0), (x, what) -> x.object(0, what));
        }
        e.outside("what of the last one:", 0, 7, () -> withObjects(3, 16), (x, what) -> x.object(15, what));
        int[] want = {3, 15, 1, 0, 0, 0, 0, 0};
        ExecutiveDesk x = withObjects(3, 16);
        for (int what = 0; what <= 7; what++) {
            e.due("what " + what, want[what], x.object(15, what));
        }
    }

    private static void itsType(Edges e) {
        e.sentence("Of OBJECT o what 0: its TYPE");
        e.each("type", 0, 5, type -> first(type, 0).object(0, 0), type -> type);
    }

    private static void itsName(Edges e) {
        e.sentence("1: NAME, -1 if none");
        e.each("name", 0, 15, name -> withObjects(0, 16).object(name, 1), name -> name);
        e.due("none", -1, first(0, 0).object(0, 1));
        ExecutiveDesk x = Checks.desk(3);
        x.create(5, 0, 0);
        x.transfer(0, 0, 1, -1);
        x.close(0);
        e.due("none without handles", -1, x.object(0, 1));
    }

    private static void itsHandles(Edges e) {
        e.sentence("2: HANDLES");
        ExecutiveDesk x = new ExecutiveDesk();
        int made = 0;
        for (int p = 0; p < 4; p++) {
            x.process(0);
            x.thread(p, p);
            for (int h = 0; h < 8; h++) {
                if (made == 0) {
                    x.create(0, 0, 0);
                } else {
                    x.open(0, 7);
                }
                made++;
                e.due("how many", made, x.object(0, 2));
            }
        }
        x.open(0, 7);
        e.due("all that there can be", 32, x.object(0, 2));
        ExecutiveDesk y = Checks.desk(3);
        y.create(5, 0, 0);
        y.transfer(0, 0, 1, -1);
        y.close(0);
        e.due("none", 0, y.object(0, 2));
    }

    private static void itsPointers(Edges e) {
        e.sentence("3: POINTERS");
        e.due("none", 0, first(0, 0).object(0, 3));
        ExecutiveDesk x = Checks.desk(7, 6, 5, 4, 3, 2, 1, 0);
        x.create(0, 0, -1);
        for (int n = 1; n <= 8; n++) {
            x.await(0, -1, -1, 0, n);
            e.due("waits", n, x.object(0, 3));
        }
        for (int n = 7; n >= 0; n--) {
            x.tick(1);
            e.due("waits that are left", n, x.object(0, 3));
        }
        ExecutiveDesk y = first(5, 0);
        for (int n = 1; n <= 8; n++) {
            y.transfer(0, 0, 1, -1);
            e.due("transfers", n, y.object(0, 3));
        }
        y.level(1);
        for (int n = 9; n <= 16; n++) {
            y.interrupt(0, true);
            e.due("transfers and interrupts", n, y.object(0, 3));
        }
        y.level(0);
        e.due("all are over", 0, y.object(0, 3));
    }

    private static void what4(Edges e) {
        e.sentence("4: NOTE, GATE, TIMER: 1 if SIGNALED, else 0");
        e.each("a note:", 0, 1, a -> first(0, a).object(0, 4), a -> a);
        e.each("a gate:", 0, 1, a -> first(1, a).object(0, 4), a -> a);
        ExecutiveDesk x = first(4, 0);
        e.due("a timer", 0, x.object(0, 4));
        x.set(0, 1);
        e.due("a timer that is due", 0, x.object(0, 4));
        x.tick(1);
        e.due("a timer that was due", 1, x.object(0, 4));
        e.sentence("SEMAPHORE: COUNT");
        e.each("count", 0, 9, a -> first(3, a).object(0, 4), a -> a);
        e.sentence("MUTANT: how often it is had");
        ExecutiveDesk y = first(2, 0);
        for (int times = 0; times <= 9; times++) {
            e.due("had", times, y.object(0, 4));
            y.await(0, -1, -1, 0, 0);
        }
        e.due("nine times at most", 9, y.object(0, 4));
        e.sentence("DEVICE: how many stand in its row");
        for (int layers = 0; layers <= 7; layers++) {
            ExecutiveDesk z = first(5, layers);
            for (int n = 0; n <= 8; n++) {
                e.due("layers " + layers, n, z.object(0, 4));
                z.transfer(0, 0, 1, -1);
            }
            e.due("eight at most", 8, z.object(0, 4));
        }
    }

    private static void what5(Edges e) {
        e.sentence("5: MUTANT: the THREAD that has it, -1 if none");
        e.due("none", -1, first(2, 0).object(0, 5));
        e.due("thread 0", 0, first(2, 1).object(0, 5));
        ExecutiveDesk x = Checks.desk(0, 1, 2, 3, 4, 5, 6, 7);
        x.create(2, 1, -1);
        e.due("thread 7", 7, x.object(0, 5));
        e.sentence("TIMER: in how many TICKS it is due, 0 if not");
        ExecutiveDesk y = first(4, 0);
        e.due("not", 0, y.object(0, 5));
        y.set(0, 99);
        for (int left = 99; left >= 1; left--) {
            e.due("due", left, y.object(0, 5));
            y.tick(1);
        }
        e.due("not any more", 0, y.object(0, 5));
        y.tick(1);
        e.due("nor later", 0, y.object(0, 5));
        y.set(0, 5);
        y.set(0, 0);
        e.due("stopped", 0, y.object(0, 5));
        y.tick(1);
        e.due("stopped, and later", 0, y.object(0, 5));
        e.sentence("DEVICE: the first TRANSFER of its row, -1 if none");
        ExecutiveDesk z = first(5, 0);
        e.due("none", -1, z.object(0, 5));
        for (int n = 0; n < 8; n++) {
            z.transfer(0, 0, 1, -1);
        }
        for (int i = 0; i < 8; i++) {
            e.due("the first", i, z.object(0, 5));
            z.interrupt(0, true);
        }
        e.due("none is left", -1, z.object(0, 5));
        e.sentence("others: 0");
        e.each("a note:", 0, 1, a -> first(0, a).object(0, 5), a -> 0);
        e.each("a gate:", 0, 1, a -> first(1, a).object(0, 5), a -> 0);
        e.each("a semaphore:", 0, 9, a -> first(3, a).object(0, 5), a -> 0);
    }

    private static void anAbandonedMutant(Edges e) {
        e.sentence("6: 1 if it is an ABANDONED MUTANT, else 0");
        for (int n = 0; n <= 5; n++) {
            int type = n;
            e.due("type " + type, 0, first(type, 0).object(0, 6));
            ExecutiveDesk x = first(type, type == 4 ? 0 : 1);
            e.due("type " + type + " with 1", 0, x.object(0, 6));
            x.exit();
            e.due("type " + type + ", its thread has ended", type == 2 ? 1 : 0, x.object(0, 6));
        }
        ExecutiveDesk x = first(2, 1);
        x.exit();
        x.await(0, -1, -1, 0, 0);
        e.due("it was taken", 0, x.object(0, 6));
    }

    private static void howManyRules(Edges e) {
        e.sentence("7: how many rules");
        for (int type = 0; type <= 5; type++) {
            ExecutiveDesk x = first(type, 0);
            for (int n = 0; n <= 4; n++) {
                e.due("type " + type, n, x.object(0, 7));
                x.rule(0, 1, 0, 1);
            }
            e.due("four at most", 4, x.object(0, 7));
        }
    }
}
