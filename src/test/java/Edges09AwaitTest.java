/** Each sentence of promise 9, await, that names a boundary case. */
public final class Edges09AwaitTest {
    /** No handle of the desks here is this one, though it could be. */
    private static final int UNUSED = 7;

    public static void main(String[] args) {
        Edges e = new Edges("Edges09AwaitTest");
        e.needsAThread(x -> x.await(0, -1, -1, 0, 0));
        e.needsAThread(x -> x.await(-1, -2, 8, 4, 100));
        high(e);
        refusedIfHowIsNot0To3(e);
        anyOrAllAndAlertedOrNot(e);
        refusedIfTimeoutIsNotFromMinus1To99(e);
        howLongAWaitLasts(e);
        refusedIfH1IsNoHandle(e);
        refusedIfH2OrH3IsNeitherThatNorMinus1(e);
        refusedIfOneIsOfADevice(e);
        refusedIfTwoNameTheSameObject(e);
        everyOtherTypeAtEveryPlace(e);
        waitIsNeeded(e);
        any(e);
        all(e);
        aSemaphore(e);
        aMutant(e);
        anAbandonedMutant(e);
        alerted(e);
        timeoutOrWaiting(e);
        theOrderOfRefusals(e);
        e.end();
    }

    /**
     * Handles 0 to 2 are gates, signaled where the sum has 1, 2 and 4; 3 is a device; 4 and 5 are gate 0, 5
     * without WAIT; 6 is gate 1 with WAIT alone. Thread 0 runs, thread 1 is ready behind it.
     */
    private static ExecutiveDesk gates(int signaled) {
        ExecutiveDesk x = Checks.desk(3, 0);
        for (int place = 0; place < 3; place++) {
            x.create(1, signaled >> place & 1, place);
        }
        x.create(5, 0, 3);
        x.open(0, 7);
        x.open(0, 3);
        x.open(1, 4);
        return x;
    }

    private static ExecutiveDesk gatesAtLevel1() {
        ExecutiveDesk x = gates(7);
        x.level(1);
        return x;
    }

    private static ExecutiveDesk withCalls(int signaled, int calls) {
        ExecutiveDesk x = gates(signaled);
        for (int n = 1; n <= calls; n++) {
            x.call(0, 10 * n);
        }
        return x;
    }

    private static void high(Edges e) {
        e.sentence("A THREAD waits (HIGH)");
        for (int n = 0; n <= 3; n++) {
            int how = n;
            e.refused("what is signaled, how " + how, ExecutiveDesk.HIGH, Edges09AwaitTest::gatesAtLevel1, x -> x.await(0, 1, 2, how, 0));
            e.taken("at level 0, how " + how, 0, () -> gates(7), x -> x.await(0, 1, 2, how, 0));
        }
        e.refused("at level 1 with calls", ExecutiveDesk.HIGH, () -> {
            ExecutiveDesk x = withCalls(0, 2);
            x.level(1);
            return x;
        }, x -> x.await(0, -1, -1, 2, -1));
        ExecutiveDesk x = gatesAtLevel1();
        x.level(0);
        e.due("level 0 again", 0, x.await(0, -1, -1, 0, 0));
    }

    private static void refusedIfHowIsNot0To3(Edges e) {
        e.sentence("REFUSED if how is not 0..3");
        e.inside("how", 0, 3, () -> gates(7), (x, how) -> x.await(0, 1, 2, how, 0), how -> 0);
        e.outside("how", 0, 3, () -> gates(7), (x, how) -> x.await(0, 1, 2, how, 0));
        e.outside("how of one with calls", 0, 3, () -> withCalls(7, 1), (x, how) -> x.await(0, 1, 2, how, 0));
    }

    private static void anyOrAllAndAlertedOrNot(Edges e) {
        e.sentence("how 0 ANY, 1 ALL, and 2 more if it may be ALERTED");
        int[] oneOfTwo = {0, ExecutiveDesk.TIMEOUT, 0, ExecutiveDesk.TIMEOUT};
        int[] withACall = {0, ExecutiveDesk.TIMEOUT, ExecutiveDesk.ALERTED, ExecutiveDesk.ALERTED};
        e.each("one of two, how", 0, 3, how -> gates(1).await(0, 1, -1, how, 0), how -> oneOfTwo[how]);
        e.each("one of two and a call, how", 0, 3, how -> withCalls(1, 1).await(0, 1, -1, how, 0), how -> withACall[how]);
        for (int how = 0; how <= 3; how++) {
            ExecutiveDesk x = gates(0);
            x.await(0, 1, -1, how, -1);
            x.set(1, 1);
            e.due("one of two while it waits, how " + how, how % 2 == 0 ? 1 : ExecutiveDesk.WAITING, x.actor(0, 3));
            ExecutiveDesk y = gates(0);
            y.await(0, 1, -1, how, -1);
            y.call(0, 1);
            e.due("a call while it waits, how " + how, how >= 2 ? ExecutiveDesk.ALERTED : ExecutiveDesk.WAITING, y.actor(0, 3));
        }
    }

    private static void refusedIfTimeoutIsNotFromMinus1To99(Edges e) {
        e.sentence("timeout not -1..99");
        e.inside("timeout of what is satisfied", -1, 99, () -> gates(1), (x, n) -> x.await(0, -1, -1, 0, n), n -> 0);
        e.outside("timeout of what is satisfied", -1, 99, () -> gates(1), (x, n) -> x.await(0, -1, -1, 0, n));
        e.outside("timeout of what is not", -1, 99, () -> gates(0), (x, n) -> x.await(0, -1, -1, 0, n));
    }

    private static void howLongAWaitLasts(Edges e) {
        e.sentence("for timeout TICKS (1..99; -1: without end; 0: not at all)");
        e.inside("the ticks it lasts:", 1, 99, () -> gates(0), (x, n) -> x.await(0, -1, -1, 0, n) + x.actor(0, 8), n -> ExecutiveDesk.WAITING + n);
        e.inside("the ticks it lasts:", -1, -1, () -> gates(0), (x, n) -> x.await(0, -1, -1, 0, n) + x.actor(0, 8), n -> ExecutiveDesk.WAITING - 1);
        e.taken("0", ExecutiveDesk.TIMEOUT, () -> gates(0), x -> x.await(0, -1, -1, 0, 0));
        for (int n : new int[] {1, 2, 9, 10, 98, 99}) {
            ExecutiveDesk x = gates(0);
            x.await(0, -1, -1, 0, n);
            for (int ticks = 1; ticks < n; ticks++) {
                x.tick(1);
            }
            e.due(n + ": one tick before", 2, x.actor(0, 0));
            e.due(n + ": one tick is left", 1, x.actor(0, 8));
            x.tick(1);
            e.due(n + ": then", ExecutiveDesk.TIMEOUT, x.actor(0, 3));
            e.due(n + ": it runs", 0, x.count(0));
        }
        ExecutiveDesk x = gates(0);
        x.tick(5);
        x.await(0, -1, -1, 0, -1);
        for (int n = 0; n < 60; n++) {
            x.tick(9);
        }
        e.due("-1: it waits still", 2, x.actor(0, 0));
        e.due("-1: without end still", -1, x.actor(0, 8));
    }

    private static void refusedIfH1IsNoHandle(Edges e) {
        e.sentence("h1 is no HANDLE");
        e.taken("the least", 0, () -> gates(7), x -> x.await(0, -1, -1, 0, 0));
        e.outside("h1", 0, 6, () -> gates(7), (x, h) -> x.await(h, -1, -1, 0, 0));
        e.outside("h1", 0, 7, () -> gates(7), (x, h) -> x.await(h, -1, -1, 0, 0));
        e.refused("-1 beside others", ExecutiveDesk.REFUSED, () -> gates(7), x -> x.await(-1, 1, 2, 0, 0));
        ExecutiveDesk x = gates(0);
        x.create(0, 1, -1);
        e.due("the largest", 0, x.await(7, -1, -1, 0, 0));
        e.refused("another process's", ExecutiveDesk.REFUSED, Edges09AwaitTest::ofAnother, y -> y.await(0, -1, -1, 0, 0));
        e.refused("it was closed", ExecutiveDesk.REFUSED, Edges09AwaitTest::closed, y -> y.await(2, -1, -1, 0, 0));
    }

    private static ExecutiveDesk ofAnother() {
        ExecutiveDesk x = gates(7);
        x.process(0);
        x.thread(1, 7);
        return x;
    }

    private static ExecutiveDesk closed() {
        ExecutiveDesk x = gates(7);
        x.close(2);
        return x;
    }

    private static void refusedIfH2OrH3IsNeitherThatNorMinus1(Edges e) {
        e.sentence("h2 or h3 neither that nor -1");
        e.taken("h2 and h3 -1", 0, () -> gates(7), x -> x.await(0, -1, -1, 1, 0));
        e.taken("h2 -1", 0, () -> gates(7), x -> x.await(0, -1, 2, 1, 0));
        e.taken("h3 -1", 0, () -> gates(7), x -> x.await(0, 1, -1, 1, 0));
        e.outside("h2", -1, 6, () -> gates(7), (x, h) -> x.await(0, h, -1, 0, 0));
        e.outside("h2", -1, 7, () -> gates(7), (x, h) -> x.await(0, h, -1, 0, 0));
        e.outside("h3", -1, 6, () -> gates(7), (x, h) -> x.await(0, 1, h, 0, 0));
        e.outside("h3", -1, 7, () -> gates(7), (x, h) -> x.await(0, -1, h, 0, 0));
        e.refused("h2 was closed", ExecutiveDesk.REFUSED, Edges09AwaitTest::closed, x -> x.await(0, 2, -1, 0, 0));
        e.refused("h3 was closed", ExecutiveDesk.REFUSED, Edges09AwaitTest::closed, x -> x.await(0, 1, 2, 0, 0));
        e.sentence("(WAIT; -1 for h2 or h3: none)");
        ExecutiveDesk x = gates(0);
        x.await(1, -1, -1, 0, -1);
        e.due("a pointer to the first", 1, x.object(1, 3));
        e.due("none to another one", 0, x.object(0, 3));
    }

    private static void refusedIfOneIsOfADevice(Edges e) {
        e.sentence("one is of a DEVICE");
        for (int n = 0; n <= 1; n++) {
            int how = n;
            e.refused("h1, how " + how, ExecutiveDesk.REFUSED, () -> gates(7), x -> x.await(3, -1, -1, how, 0));
            e.refused("h1 beside others, how " + how, ExecutiveDesk.REFUSED, () -> gates(7), x -> x.await(3, 0, 1, how, 0));
            e.refused("h2, how " + how, ExecutiveDesk.REFUSED, () -> gates(7), x -> x.await(0, 3, -1, how, 0));
            e.refused("h3, how " + how, ExecutiveDesk.REFUSED, () -> gates(7), x -> x.await(0, 1, 3, how, 0));
            e.refused("h3 without h2, how " + how, ExecutiveDesk.REFUSED, () -> gates(7), x -> x.await(0, -1, 3, how, 0));
        }
    }

    private static void refusedIfTwoNameTheSameObject(Edges e) {
        e.sentence("or two name the same OBJECT");
        e.refused("h1 and h2, one handle", ExecutiveDesk.REFUSED, () -> gates(7), x -> x.await(0, 0, -1, 0, 0));
        e.refused("h1 and h3, one handle", ExecutiveDesk.REFUSED, () -> gates(7), x -> x.await(0, -1, 0, 0, 0));
        e.refused("h2 and h3, one handle", ExecutiveDesk.REFUSED, () -> gates(7), x -> x.await(0, 1, 1, 0, 0));
        e.refused("h1 and h2, two handles", ExecutiveDesk.REFUSED, () -> gates(7), x -> x.await(0, 4, 1, 0, 0));
        e.refused("h1 and h3, two handles", ExecutiveDesk.REFUSED, () -> gates(7), x -> x.await(0, 1, 4, 0, 0));
        e.refused("h2 and h3, two handles", ExecutiveDesk.REFUSED, () -> gates(7), x -> x.await(2, 4, 0, 0, 0));
        e.taken("three objects", 0, () -> gates(7), x -> x.await(4, 6, 2, 1, 0));
    }

    private static void everyOtherTypeAtEveryPlace(Edges e) {
        e.sentence("one is of a DEVICE");
        for (int type = 0; type <= 4; type++) {
            for (int place = 0; place < 3; place++) {
                ExecutiveDesk x = Checks.desk(3);
                for (int h = 0; h < 3; h++) {
                    x.create(h == place ? type : 0, 0, -1);
                }
                int want = type == 2 ? place : ExecutiveDesk.TIMEOUT;
                e.due("type " + type + " at place " + place + " is none", want, x.await(0, 1, 2, 0, 0));
            }
        }
    }

    private static void waitIsNeeded(Edges e) {
        e.sentence("for up to three OBJECTS (WAIT");
        for (int n = 1; n <= 7; n++) {
            int rights = n;
            ExecutiveDesk x = gates(7);
            x.open(2, rights);
            e.due("rights " + rights, (rights & 4) != 0 ? 0 : ExecutiveDesk.DENIED, x.await(7, -1, -1, 0, 0));
        }
        e.refused("h1 lacks it", ExecutiveDesk.DENIED, () -> gates(7), x -> x.await(5, 1, 2, 0, 0));
        e.refused("h2 lacks it", ExecutiveDesk.DENIED, () -> gates(7), x -> x.await(1, 5, 2, 0, 0));
        e.refused("h3 lacks it", ExecutiveDesk.DENIED, () -> gates(7), x -> x.await(1, 2, 5, 0, 0));
        e.refused("h3 lacks it, without h2", ExecutiveDesk.DENIED, () -> gates(7), x -> x.await(1, -1, 5, 0, 0));
    }

    private static void any(Edges e) {
        e.sentence("the first place of those is TAKEN, the RESULT is that place (0..2)");
        int[] want = {ExecutiveDesk.TIMEOUT, 0, 1, 0, 2, 0, 1, 0};
        for (int signaled = 0; signaled < 8; signaled++) {
            ExecutiveDesk x = gates(signaled);
            e.due("signaled " + signaled, want[signaled], x.await(0, 1, 2, 0, 0));
            for (int place = 0; place < 3; place++) {
                int left = place == want[signaled] ? 0 : signaled >> place & 1;
                e.due("signaled " + signaled + ", gate " + place, left, x.object(place, 4));
            }
        }
        e.taken("the third place without a second", 2, () -> gates(4), x -> x.await(0, -1, 2, 0, 0));
    }

    private static void all(Edges e) {
        e.sentence("one for ALL if all are: all are TAKEN, the RESULT is 0");
        for (int signaled = 0; signaled < 8; signaled++) {
            ExecutiveDesk x = gates(signaled);
            e.due("signaled " + signaled, signaled == 7 ? 0 : ExecutiveDesk.TIMEOUT, x.await(0, 1, 2, 1, 0));
            for (int place = 0; place < 3; place++) {
                int left = signaled == 7 ? 0 : signaled >> place & 1;
                e.due("signaled " + signaled + ", gate " + place, left, x.object(place, 4));
            }
        }
        e.taken("one alone", 0, () -> gates(2), x -> x.await(1, -1, -1, 1, 0));
        e.taken("the first and the third", 0, () -> gates(5), x -> x.await(0, -1, 2, 1, 0));
    }

    private static void aSemaphore(Edges e) {
        e.sentence("a SEMAPHORE whose COUNT (0..9) is not 0");
        for (int count = 0; count <= 9; count++) {
            ExecutiveDesk x = Checks.desk(0);
            x.create(3, count, -1);
            for (int left = count - 1; left >= 0; left--) {
                e.due("taken", 0, x.await(0, -1, -1, 0, 0));
                e.due("left", left, x.object(0, 4));
            }
            e.due("none is left of " + count, ExecutiveDesk.TIMEOUT, x.await(0, -1, -1, 0, 0));
            e.due("none", 0, x.object(0, 4));
        }
    }

    private static void aMutant(Edges e) {
        e.sentence("a MUTANT, for a THREAD, if nobody has it, or this one has it fewer than 9 times");
        ExecutiveDesk x = Checks.desk(0, 0);
        x.create(2, 0, -1);
        for (int times = 1; times <= 9; times++) {
            e.due("time " + times, 0, x.await(0, -1, -1, 0, 0));
            e.due("had", times, x.object(0, 4));
        }
        e.due("a tenth time", ExecutiveDesk.TIMEOUT, x.await(0, -1, -1, 0, 0));
        e.due("had nine times still", 9, x.object(0, 4));
        e.due("a tenth time, ALL", ExecutiveDesk.TIMEOUT, x.await(0, -1, -1, 1, 0));
        x.tick(3);
        e.due("the other thread", 1, x.count(0));
        e.due("it is another one's", ExecutiveDesk.TIMEOUT, x.await(0, -1, -1, 0, 0));
        x.tick(3);
        x.set(0, 1);
        e.due("eight times: once more", 0, x.await(0, -1, -1, 0, 0));
        e.due("had nine times", 9, x.object(0, 4));
        e.due("it waits for itself", ExecutiveDesk.WAITING, x.await(0, -1, -1, 0, 2));
        x.tick(2);
        e.due("in vain", ExecutiveDesk.TIMEOUT, x.actor(0, 3));
    }

    private static void anAbandonedMutant(Edges e) {
        e.sentence("16 more if a MUTANT that was TAKEN was ABANDONED");
        for (int place = 0; place < 3; place++) {
            ExecutiveDesk x = abandoned(1 << place);
            e.due("ANY, place " + place, 16 + place, place == 0 ? x.await(0, 3, 4, 0, 0)
                    : place == 1 ? x.await(3, 1, 4, 0, 0) : x.await(3, 4, 2, 0, 0));
            e.due("and not ABANDONED", 0, x.object(place, 6));
            e.due("once more", 0, x.await(place, -1, -1, 0, 0));
        }
        for (int which = 0; which < 8; which++) {
            ExecutiveDesk x = abandoned(which);
            e.due("ALL, abandoned " + which, which == 0 ? 0 : 16, x.await(0, 1, 2, 1, 0));
            e.due("ALL, once more", 0, x.await(0, 1, 2, 1, 0));
        }
        ExecutiveDesk x = abandoned(2);
        e.due("ANY, one that is not taken", 0, x.await(0, 1, -1, 0, 0));
        e.due("is abandoned still", 1, x.object(1, 6));
    }

    /** Three mutants that nobody has, abandoned where the sum has 1, 2 and 4; handles 3 and 4 are notes, not signaled. */
    private static ExecutiveDesk abandoned(int which) {
        ExecutiveDesk x = Checks.desk(3, 0);
        for (int o = 0; o < 3; o++) {
            x.create(2, which >> o & 1, -1);
        }
        x.create(0, 0, -1);
        x.create(0, 0, -1);
        x.exit();
        return x;
    }

    private static void alerted(Edges e) {
        e.sentence("If it may be ALERTED and has CALLS: ALERTED, and these are delivered");
        for (int calls = 0; calls <= 4; calls++) {
            for (int how = 0; how <= 3; how++) {
                ExecutiveDesk x = withCalls(7, calls);
                String what = calls + " calls, how " + how;
                boolean alert = how >= 2 && calls > 0;
                e.due(what, alert ? ExecutiveDesk.ALERTED : 0, x.await(0, 1, 2, how, -1));
                e.due(what + ": to be delivered", alert ? 0 : calls, x.actor(0, 4));
                e.due(what + ": delivered", alert ? calls : 0, x.actor(0, 5));
                e.due(what + ": the latest", alert ? 10 * calls : 0, x.actor(0, 6));
                e.due(what + ": a gate is not taken", alert ? 1 : 0, x.object(0, 4));
                e.due(what + ": it runs", 0, x.count(0));
            }
        }
        e.taken("not satisfied, without a limit", ExecutiveDesk.ALERTED, () -> withCalls(0, 1), x -> x.await(0, -1, -1, 2, -1));
        e.taken("not satisfied, not at all", ExecutiveDesk.ALERTED, () -> withCalls(0, 1), x -> x.await(0, -1, -1, 3, 0));
    }

    private static void timeoutOrWaiting(Edges e) {
        e.sentence("if it is satisfied: as its RESULT; else TIMEOUT (0), or WAITING: it WAITS");
        for (int how = 0; how <= 3; how++) {
            ExecutiveDesk x = gates(0);
            e.due("0, how " + how, ExecutiveDesk.TIMEOUT, x.await(0, 1, 2, how, 0));
            e.due("it runs", 0, x.actor(0, 0));
            e.due("no pointer", 0, x.object(0, 3));
            for (int timeout : new int[] {-1, 1, 99}) {
                ExecutiveDesk y = gates(0);
                e.due(timeout + ", how " + how, ExecutiveDesk.WAITING, y.await(0, 1, 2, how, timeout));
                e.due("it waits", 2, y.actor(0, 0));
                e.due("a pointer at each place", 3, y.object(0, 3) + y.object(1, 3) + y.object(2, 3));
                e.due("the next one runs", 1, y.count(0));
            }
        }
        ExecutiveDesk again = gates(0);
        again.await(0, -1, -1, 0, 1);
        again.tick(1);
        again.await(0, -1, -1, 0, -1);
        e.due("it waits again: its result", ExecutiveDesk.WAITING, again.actor(0, 3));
        again.set(0, 1);
        e.due("it is satisfied later: its result", 0, again.actor(0, 3));
        ExecutiveDesk both = Checks.desk(3, 2, 1);
        both.create(1, 0, -1);
        both.await(0, -1, -1, 0, -1);
        both.await(0, -1, -1, 0, -1);
        both.set(0, 1);
        e.due("who began first is the first", 0, both.actor(0, 3));
        e.due("who began later waits", 2, both.actor(1, 0));
        e.sentence("(Who begins to wait has used none, too.)");
        ExecutiveDesk x = gates(0);
        x.tick(2);
        x.await(0, -1, -1, 0, 0);
        e.due("0: it does not begin to wait", 2, x.actor(0, 7));
        x.await(0, -1, -1, 0, 1);
        e.due("1: it begins to wait", 0, x.actor(0, 7));
    }

    private static void theOrderOfRefusals(Edges e) {
        e.sentence("tested in the order: NOBODY (if a THREAD makes it), HIGH (where said: the LEVEL is 1), REFUSED, DENIED");
        e.refused("level 1 and a wrong how", ExecutiveDesk.HIGH, Edges09AwaitTest::gatesAtLevel1, x -> x.await(0, -1, -1, 4, 0));
        e.refused("level 1 and a wrong timeout", ExecutiveDesk.HIGH, Edges09AwaitTest::gatesAtLevel1, x -> x.await(0, -1, -1, 0, 100));
        e.refused("level 1 and no handle", ExecutiveDesk.HIGH, Edges09AwaitTest::gatesAtLevel1, x -> x.await(-1, -1, -1, 0, 0));
        e.refused("level 1 without WAIT", ExecutiveDesk.HIGH, Edges09AwaitTest::gatesAtLevel1, x -> x.await(5, -1, -1, 0, 0));
        e.refused("a wrong how without WAIT", ExecutiveDesk.REFUSED, () -> gates(7), x -> x.await(5, -1, -1, 4, 0));
        e.refused("a wrong timeout without WAIT", ExecutiveDesk.REFUSED, () -> gates(7), x -> x.await(5, -1, -1, 0, -2));
        e.refused("no handle h2, h1 without WAIT", ExecutiveDesk.REFUSED, () -> gates(7), x -> x.await(5, UNUSED, -1, 0, 0));
        e.refused("no handle h3, h1 without WAIT", ExecutiveDesk.REFUSED, () -> gates(7), x -> x.await(5, 1, UNUSED, 0, 0));
        e.refused("a device, h1 without WAIT", ExecutiveDesk.REFUSED, () -> gates(7), x -> x.await(5, 3, -1, 0, 0));
        e.refused("the same object, without WAIT", ExecutiveDesk.REFUSED, () -> gates(7), x -> x.await(5, 0, -1, 0, 0));
        e.refused("without WAIT, with calls", ExecutiveDesk.DENIED, () -> withCalls(7, 1), x -> x.await(5, -1, -1, 2, 0));
        e.refused("no handle, with calls", ExecutiveDesk.REFUSED, () -> withCalls(7, 1), x -> x.await(UNUSED, -1, -1, 2, 0));
        e.refused("without WAIT, not satisfied", ExecutiveDesk.DENIED, () -> gates(0), x -> x.await(5, -1, -1, 0, -1));
    }
}
