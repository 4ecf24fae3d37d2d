/** Each sentence of promise 8, set, that names a boundary case. */
public final class Edges08SetTest {
    public static void main(String[] args) {
        Edges e = new Edges("Edges08SetTest");
        e.needsAThread(x -> x.set(0, 1));
        e.needsAThread(x -> x.set(-1, -1));
        noteAndGate(e);
        semaphore(e);
        mutant(e);
        timer(e);
        whenATimerIsDue(e);
        whoWaitsForIt(e);
        refusedIfHIsNoHandle(e);
        refusedIfItIsADevice(e);
        refusedIfNIsNotAsSaid(e);
        limitIfTheCountWouldBeAbove9(e);
        notOwner(e);
        changeIsNeeded(e);
        theOrderOfRefusals(e);
        e.end();
    }

    /** Object 0, of the name 0; handle 0 has all rights to it, handle h has the rights h. */
    private static ExecutiveDesk first(int type, int a) {
        ExecutiveDesk x = Checks.desk(3, 0);
        x.create(type, a, 0);
        for (int h = 1; h < 8; h++) {
            x.open(0, h);
        }
        return x;
    }

    /** A mutant that the thread which runs has this many times. */
    private static ExecutiveDesk had(int times) {
        ExecutiveDesk x = first(2, 0);
        for (int n = 0; n < times; n++) {
            x.await(0, -1, -1, 0, 0);
        }
        return x;
    }

    /** A mutant that thread 0 has, while thread 1 runs. */
    private static ExecutiveDesk hadByAnother() {
        ExecutiveDesk x = first(2, 1);
        x.close(7);
        x.create(0, 0, -1);
        x.await(7, -1, -1, 0, -1);
        return x;
    }

    private static ExecutiveDesk signaledTimer() {
        ExecutiveDesk x = first(4, 0);
        x.set(0, 1);
        x.tick(1);
        return x;
    }

    private static void noteAndGate(Edges e) {
        for (int type = 0; type <= 1; type++) {
            for (int before = 0; before <= 1; before++) {
                for (int n = 0; n <= 1; n++) {
                    ExecutiveDesk x = first(type, before);
                    String what = "type " + type + " from " + before + " to " + n;
                    e.sentence("The answer: NOTE, GATE, TIMER: 1 if it was SIGNALED, else 0");
                    e.due(what, before, x.set(0, n));
                    e.sentence("NOTE, GATE: n 1: SIGNALED, 0: not");
                    e.due(what, n, x.object(0, 4));
                }
            }
        }
    }

    private static void semaphore(Edges e) {
        e.sentence("SEMAPHORE: its COUNT is n (1..9) more");
        e.inside("none and", 1, 9, () -> first(3, 0), (x, n) -> x.set(0, n) + x.object(0, 4), n -> n);
        e.each("the least more than", 0, 8, count -> {
            ExecutiveDesk x = first(3, count);
            x.set(0, 1);
            return x.object(0, 4);
        }, count -> count + 1);
        e.sentence("SEMAPHORE: the COUNT before");
        e.each("count", 0, 8, count -> first(3, count).set(0, 9 - count), count -> count);
    }

    private static void mutant(Edges e) {
        e.sentence("MUTANT: how often it has it still");
        e.each("had", 1, 9, times -> had(times).set(0, 1), times -> times - 1);
        e.sentence("MUTANT, n 1: it has it once less, nobody has it behind the last time");
        for (int times = 1; times <= 9; times++) {
            ExecutiveDesk x = had(times);
            x.set(0, 1);
            e.due("had " + times + ": how often", times - 1, x.object(0, 4));
            e.due("had " + times + ": by whom", times == 1 ? -1 : 0, x.object(0, 5));
        }
        ExecutiveDesk x = Checks.desk(1, 1);
        x.create(2, 1, -1);
        x.await(0, -1, -1, 0, 0);
        x.tick(3);
        x.await(0, -1, -1, 0, -1);
        x.set(0, 1);
        e.due("once still: the other one waits", 2, x.actor(1, 0));
        x.set(0, 1);
        e.due("the last time: the other one has it", 1, x.object(0, 5));
        e.due("given back, it is not abandoned", 0, x.actor(1, 3));
    }

    private static void timer(Edges e) {
        e.sentence("TIMER: it is not SIGNALED, and will be n TICKS later (0..99; 0: not)");
        e.inside("due in", 0, 99, () -> first(4, 0), (x, n) -> x.set(0, n) + x.object(0, 5), n -> n);
        for (int n : new int[] {0, 1, 99}) {
            ExecutiveDesk x = signaledTimer();
            x.set(0, n);
            e.due("set to " + n + " it is not signaled", 0, x.object(0, 4));
            e.due("but due in", n, x.object(0, 5));
            ExecutiveDesk y = first(4, 0);
            y.set(0, 50);
            y.set(0, n);
            e.due("set to " + n + " before it was due", n, y.object(0, 5));
        }
        e.sentence("The answer: NOTE, GATE, TIMER: 1 if it was SIGNALED, else 0");
        e.inside("not signaled, set to", 0, 99, () -> first(4, 0), (x, n) -> x.set(0, n), n -> 0);
        e.inside("signaled, set to", 0, 99, Edges08SetTest::signaledTimer, (x, n) -> x.set(0, n), n -> 1);
        ExecutiveDesk x = first(4, 0);
        x.set(0, 2);
        e.due("due, but not signaled", 0, x.set(0, 2));
    }

    private static void whenATimerIsDue(Edges e) {
        e.sentence("will be n TICKS later (0..99; 0: not)");
        for (int n : new int[] {1, 2, 9, 10, 98, 99}) {
            ExecutiveDesk x = first(4, 0);
            x.set(0, n);
            for (int ticks = 1; ticks < n; ticks++) {
                x.tick(1);
            }
            e.due(n + ": one tick before", 0, x.object(0, 4));
            x.tick(1);
            e.due(n + ": then", 1, x.object(0, 4));
        }
        ExecutiveDesk x = first(4, 0);
        x.set(0, 3);
        x.set(0, 0);
        for (int n = 0; n < 12; n++) {
            x.tick(9);
        }
        e.due("0: not", 0, x.object(0, 4));
        e.due("0: nor due", 0, x.object(0, 5));
    }

    /** Thread 0 waits for an object of this type, which is not signaled; thread 1, of a less priority, runs. */
    private static ExecutiveDesk awaited(int type) {
        ExecutiveDesk x = first(type, 0);
        x.await(0, -1, -1, 0, -1);
        return x;
    }

    private static void whoWaitsForIt(Edges e) {
        e.sentence("RELEASING, whenever an OBJECT becomes SIGNALED");
        for (int type = 0; type <= 1; type++) {
            ExecutiveDesk x = awaited(type);
            x.set(0, 0);
            e.due("type " + type + " with 0: it waits", 2, x.actor(0, 0));
            x.set(0, 1);
            e.due("type " + type + " with 1: its result", 0, x.actor(0, 3));
            e.due("type " + type + " with 1: it runs", 0, x.count(0));
            e.due("type " + type + " with 1: a gate is taken", 1 - type, x.object(0, 4));
        }
        for (int n = 1; n <= 9; n++) {
            ExecutiveDesk x = awaited(3);
            e.due("a count of none, and " + n, 0, x.set(0, n));
            e.due("its result", 0, x.actor(0, 3));
            e.due("it runs", 0, x.count(0));
            e.due("it took one of " + n, n - 1, x.object(0, 4));
        }
        ExecutiveDesk x = awaited(4);
        x.set(0, 1);
        e.due("a timer that is due: it waits", 2, x.actor(0, 0));
        x.set(0, 0);
        e.due("a timer that is not: it waits", 2, x.actor(0, 0));
    }

    private static void refusedIfHIsNoHandle(Edges e) {
        e.sentence("REFUSED if h is no HANDLE");
        e.taken("the least", 0, () -> first(0, 0), x -> x.set(0, 1));
        e.taken("the largest", 0, () -> first(0, 0), x -> x.set(7, 1));
        e.outside("h", 0, 7, () -> first(0, 0), (x, h) -> x.set(h, 1));
        e.outside("none is in use: h", 0, -1, () -> Checks.desk(0), (x, h) -> x.set(h, 1));
        e.refused("it was closed", ExecutiveDesk.REFUSED, Edges08SetTest::closed, x -> x.set(7, 1));
        e.refused("another process's", ExecutiveDesk.REFUSED, Edges08SetTest::ofAnother, x -> x.set(0, 1));
    }

    private static ExecutiveDesk closed() {
        ExecutiveDesk x = first(0, 0);
        x.close(7);
        return x;
    }

    private static ExecutiveDesk ofAnother() {
        ExecutiveDesk x = first(0, 0);
        x.process(0);
        x.thread(1, 7);
        return x;
    }

    private static void refusedIfItIsADevice(Edges e) {
        e.sentence("REFUSED if .. it is a DEVICE");
        for (int n : new int[] {-1, 0, 1, 2, 9, 99}) {
            e.refused("set to " + n, ExecutiveDesk.REFUSED, () -> first(5, 7), x -> x.set(0, n));
            e.refused("set to " + n + " without CHANGE", ExecutiveDesk.REFUSED, () -> first(5, 0), x -> x.set(5, n));
        }
    }

    private static void refusedIfNIsNotAsSaid(Edges e) {
        e.sentence("REFUSED if .. or n not as said");
        e.outside("a note:", 0, 1, () -> first(0, 0), (x, n) -> x.set(0, n));
        e.outside("a note that is signaled:", 0, 1, () -> first(0, 1), (x, n) -> x.set(0, n));
        e.outside("a gate:", 0, 1, () -> first(1, 0), (x, n) -> x.set(0, n));
        e.outside("a gate that is signaled:", 0, 1, () -> first(1, 1), (x, n) -> x.set(0, n));
        e.outside("a mutant:", 1, 1, () -> first(2, 1), (x, n) -> x.set(0, n));
        e.outside("a mutant, had nine times:", 1, 1, () -> had(9), (x, n) -> x.set(0, n));
        e.outside("a semaphore:", 1, 9, () -> first(3, 0), (x, n) -> x.set(0, n));
        e.outside("a timer:", 0, 99, () -> first(4, 0), (x, n) -> x.set(0, n));
        e.outside("a timer that is signaled:", 0, 99, Edges08SetTest::signaledTimer, (x, n) -> x.set(0, n));
    }

    private static void limitIfTheCountWouldBeAbove9(Edges e) {
        e.sentence("LIMIT if the COUNT would be above 9");
        for (int from = 0; from <= 9; from++) {
            int count = from;
            for (int more = 1; more <= 9; more++) {
                int n = more;
                if (count + n <= 9) {
                    e.taken(count + " and " + n, count, () -> first(3, count), x -> x.set(0, n));
                } else {
                    e.refused(count + " and " + n, ExecutiveDesk.LIMIT, () -> first(3, count), x -> x.set(0, n));
                }
            }
        }
    }

    private static void notOwner(Edges e) {
        e.sentence("NOT_OWNER if the THREAD does not have the MUTANT");
        e.refused("nobody has it", ExecutiveDesk.NOT_OWNER, () -> first(2, 0), x -> x.set(0, 1));
        e.refused("another thread has it", ExecutiveDesk.NOT_OWNER, Edges08SetTest::hadByAnother, x -> x.set(0, 1));
        e.refused("it has given it back", ExecutiveDesk.NOT_OWNER, Edges08SetTest::givenBack, x -> x.set(0, 1));
        e.refused("it is abandoned", ExecutiveDesk.NOT_OWNER, Edges08SetTest::abandoned, x -> x.set(0, 1));
    }

    private static ExecutiveDesk givenBack() {
        ExecutiveDesk x = had(1);
        x.set(0, 1);
        return x;
    }

    private static ExecutiveDesk abandoned() {
        ExecutiveDesk x = had(2);
        x.exit();
        return x;
    }

    private static void changeIsNeeded(Edges e) {
        e.sentence("A THREAD sets an OBJECT (CHANGE)");
        for (int n = 0; n <= 4; n++) {
            int type = n;
            int a = type == 2 ? 1 : 0;
            for (int rights = 1; rights <= 7; rights++) {
                int h = rights;
                String what = "type " + type + " with the rights " + rights;
                if ((h & 2) != 0) {
                    e.taken(what, 0, () -> first(type, a), x -> x.set(h, 1));
                } else {
                    e.refused(what, ExecutiveDesk.DENIED, () -> first(type, a), x -> x.set(h, 1));
                }
            }
        }
    }

    private static void theOrderOfRefusals(Edges e) {
        e.sentence("tested in the order: .. REFUSED, DENIED, then what else is named, in that order");
        e.refused("a note: a wrong n without CHANGE", ExecutiveDesk.REFUSED, () -> first(0, 0), x -> x.set(5, 2));
        e.refused("a timer: a wrong n without CHANGE", ExecutiveDesk.REFUSED, () -> first(4, 0), x -> x.set(5, 100));
        e.refused("a wrong n that is above the limit", ExecutiveDesk.REFUSED, () -> first(3, 9), x -> x.set(0, 10));
        e.refused("a wrong n of one that does not have it", ExecutiveDesk.REFUSED, () -> first(2, 0), x -> x.set(0, 2));
        e.refused("above the limit without CHANGE", ExecutiveDesk.DENIED, () -> first(3, 9), x -> x.set(5, 1));
        e.refused("one that does not have it, without CHANGE", ExecutiveDesk.DENIED, () -> first(2, 0), x -> x.set(5, 1));
        e.sentence("HIGH (where said: the LEVEL is 1)");
        ExecutiveDesk x = first(0, 0);
        x.level(1);
        e.due("it is not said here", 0, x.set(0, 1));
        e.due("it is set", 1, x.object(0, 4));
    }
}
