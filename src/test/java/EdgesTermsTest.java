/** Each sentence of the section 'Terms' that names a boundary case of rows, waits and releases. */
public final class EdgesTermsTest {
    public static void main(String[] args) {
        Edges e = new Edges("EdgesTermsTest");
        atMost512Calls(e);
        runningOneAtMost(e);
        theNextOne(e);
        whenNobodyRuns(e);
        aGreaterPriority(e);
        theFrontOfItsRow(e);
        theBackOfItsRow(e);
        onceOnly(e);
        behindEachCall(e);
        whileTheLevelIs1(e);
        inTheOrderInWhichTheyBegan(e);
        ifTheWaitCanBeSatisfied(e);
        aGateLetsOneThrough(e);
        aNoteLetsAllThrough(e);
        aCountLetsAsManyThrough(e);
        aMutantIsHadByOne(e);
        anyOfThree(e);
        allOfThree(e);
        aPointerForEachPlace(e);
        alertedWhenTheLevelIs0(e);
        e.end();
    }

    private static void atMost512Calls(Edges e) {
        e.sentence("An object is used for at most 512 calls after it has been made");
        ExecutiveDesk x = new ExecutiveDesk();
        for (int call = 1; call < 512; call++) {
            x.tick(9);
        }
        e.due("the last one", 9 * 511 + 1, x.tick(1));
        ExecutiveDesk y = Checks.desk(3);
        y.tick(1);
        for (int call = 4; call < 512; call += 2) {
            y.create(3, call % 10, -1);
            y.close(0);
        }
        e.due("the last one, behind many objects", 0, y.count(5));
    }

    private static void runningOneAtMost(Edges e) {
        e.sentence("each is RUNNING (one at most), READY, WAITS, or has ENDED");
        ExecutiveDesk x = Checks.desk(1, 1, 2, 2, 3, 3, 4, 4);
        x.create(0, 0, -1);
        for (int n = 0; n < 24; n++) {
            if (n % 3 == 0) {
                x.tick(3);
            } else if (n % 3 == 1) {
                x.await(0, -1, -1, 0, 7);
            } else {
                x.exit();
            }
            int running = 0;
            for (int t = 0; t < 8; t++) {
                if (x.actor(t, 0) == 0) {
                    running++;
                    e.due("it is the one that is told", t, x.count(0));
                }
            }
            e.due("behind call " + n, x.count(0) == -1 ? 0 : 1, running);
        }
    }

    private static void theNextOne(Edges e) {
        e.sentence("the NEXT one is the first of the row with the greatest PRIORITY that is not empty");
        for (int great = 0; great <= 7; great++) {
            for (int less = 0; less < great; less++) {
                ExecutiveDesk x = Checks.desk(7, less, great, great, less);
                int[] order = {0, 2, 3, 1, 4};
                for (int t : order) {
                    e.due("priorities " + less + " and " + great, t, x.exit());
                }
            }
        }
    }

    private static void whenNobodyRuns(Edges e) {
        e.sentence("When nobody RUNS, the NEXT one does");
        e.each("the only one, of priority", 0, 7, priority -> Checks.desk(priority).count(0), priority -> 0);
        ExecutiveDesk x = Checks.desk(0, 7, 3, 7, 0);
        int[] order = {1, 3, 2, 0, 4};
        for (int t : order) {
            e.due("the next one", t, x.exit());
        }
        e.due("no next one", -1, x.count(0));
    }

    private static void aGreaterPriority(Edges e) {
        e.sentence("When a READY one has a greater PRIORITY than that which RUNS");
        for (int first = 0; first <= 7; first++) {
            for (int second = 0; second <= 7; second++) {
                int runs = second > first ? 1 : 0;
                ExecutiveDesk x = Checks.desk(first, second);
                e.due(first + ", then " + second, runs, x.count(0));
                e.due(first + ", then " + second + ": it is running", 0, x.actor(runs, 0));
                e.due(first + ", then " + second + ": the other one is ready", 1, x.actor(1 - runs, 0));
            }
        }
    }

    private static void theFrontOfItsRow(Edges e) {
        e.sentence("that goes to the front of its row, and the NEXT one RUNS");
        ExecutiveDesk x = Checks.desk(3, 3, 3, 3, 3, 3, 3);
        x.thread(0, 4);
        e.due("it runs", 7, x.exit());
        for (int t = 0; t < 7; t++) {
            e.due("the row", t, x.exit());
        }
    }

    private static void theBackOfItsRow(Edges e) {
        e.sentence("What becomes READY goes to the back of its row, if nothing else is said");
        ExecutiveDesk x = Checks.desk(3, 3, 3, 3, 3, 3, 3, 3);
        x.create(0, 0, -1);
        x.await(0, -1, -1, 0, -1);
        x.set(0, 1);
        for (int t = 1; t < 8; t++) {
            e.due("the row", t, x.exit());
        }
        e.due("the last one", 0, x.exit());
    }

    private static void onceOnly(Edges e) {
        e.sentence("Who RUNS is looked at when all else that a call brings about is done (in a TICK when it says so), and once only");
        ExecutiveDesk x = Checks.desk(1, 2, 3, 4, 5, 6, 7);
        x.create(0, 0, -1);
        for (int t = 6; t >= 1; t--) {
            x.await(0, -1, -1, 0, -1);
        }
        int before = x.count(7);
        x.set(0, 1);
        e.due("six became ready, one began to run", before + 1, x.count(7));
        e.due("the greatest", 6, x.count(0));
    }

    /**
     * Thread 0 waits for note 0 and may be alerted; thread 1, of a less priority, runs. Handle 1 is a device
     * with a filter; its transfers 0 and 1 are to set the note.
     */
    private static ExecutiveDesk oneThatWaits() {
        ExecutiveDesk x = Checks.desk(3, 2);
        x.create(0, 0, -1);
        x.create(5, 1, -1);
        x.transfer(1, 0, 9, 0);
        x.transfer(1, 0, 9, 0);
        x.await(0, -1, -1, 2, 5);
        return x;
    }

    private static void behindEachCall(Edges e) {
        e.sentence("Who RUNS is looked at when all else that a call brings about is done");
        e.taken("it waits", 1, EdgesTermsTest::oneThatWaits, x -> x.count(0));
        e.taken("set", 0, EdgesTermsTest::oneThatWaits, x -> x.set(0, 1) + x.count(0));
        e.taken("call", 0, EdgesTermsTest::oneThatWaits, x -> x.call(0, 1) + x.count(0));
        e.taken("interrupt", 1, EdgesTermsTest::oneThatWaits, x -> x.interrupt(1, true) + x.count(0));
        e.taken("transfer", 2, EdgesTermsTest::oneThatWaits, x -> x.transfer(1, 0, 65, 0) + x.count(0));
        e.taken("cancel", 1, EdgesTermsTest::oneThatWaits, x -> x.cancel(1) + x.count(0));
        e.taken("tick", 5, EdgesTermsTest::oneThatWaits, x -> x.tick(5) + x.count(0));
        e.taken("thread", 4, EdgesTermsTest::oneThatWaits, x -> x.thread(0, 7) + x.count(0));
        e.taken("exit", 0, EdgesTermsTest::oneThatWaits, x -> x.exit() + x.count(0));
        e.taken("await", ExecutiveDesk.WAITING - 1, EdgesTermsTest::oneThatWaits, x -> x.await(0, -1, -1, 0, 1) + x.count(0));
    }

    private static void whileTheLevelIs1(Edges e) {
        e.sentence("while the LEVEL is 1 (0 at first) it is not, but when it is 0 again");
        ExecutiveDesk x = Checks.desk(3, 2);
        x.create(0, 0, -1);
        x.await(0, -1, -1, 0, -1);
        x.level(1);
        x.set(0, 1);
        e.due("it is ready", 1, x.actor(0, 0));
        e.due("its result is told", 0, x.actor(0, 3));
        e.due("the other one runs", 1, x.count(0));
        x.level(0);
        e.due("it runs", 0, x.count(0));
    }

    /** Eight threads, of which 7 to 1 have begun to wait for object 0, in that order; thread 0 runs. */
    private static ExecutiveDesk sevenWait(int type) {
        ExecutiveDesk x = Checks.desk(0, 1, 2, 3, 4, 5, 6, 7);
        x.create(type, 0, -1);
        for (int t = 7; t >= 1; t--) {
            x.await(0, -1, -1, 0, -1);
        }
        return x;
    }

    private static int waiting(ExecutiveDesk x) {
        int waiting = 0;
        for (int t = 0; t < 8; t++) {
            if (x.actor(t, 0) == 2) {
                waiting++;
            }
        }
        return waiting;
    }

    private static void inTheOrderInWhichTheyBegan(Edges e) {
        e.sentence("the THREADS that WAIT, in the order in which they began");
        ExecutiveDesk x = Checks.desk(7, 6, 5, 4, 3, 2, 1, 0);
        x.create(1, 0, -1);
        for (int t = 0; t <= 6; t++) {
            x.await(0, -1, -1, 0, -1);
        }
        x.level(1);
        for (int t = 0; t <= 6; t++) {
            x.set(0, 1);
            e.due("the next one", 1, x.actor(t, 0));
            e.due("those behind it wait", 6 - t, waiting(x));
        }
        ExecutiveDesk y = Checks.desk(3, 2, 1);
        y.create(1, 0, -1);
        y.await(0, -1, -1, 0, 1);
        y.await(0, -1, -1, 0, -1);
        y.tick(1);
        y.await(0, -1, -1, 0, -1);
        y.set(0, 1);
        e.due("who began anew stands behind", 2, y.actor(0, 0));
        e.due("who began before is the first", 0, y.actor(1, 3));
    }

    private static void ifTheWaitCanBeSatisfied(Edges e) {
        e.sentence("if the wait can be satisfied, it is: what it needs is TAKEN, its RESULT is told, the THREAD is READY");
        ExecutiveDesk x = Checks.desk(5, 4, 3, 2);
        x.create(1, 0, -1);
        x.create(1, 0, -1);
        x.await(0, 1, -1, 1, -1);
        x.await(1, -1, -1, 0, -1);
        x.await(0, -1, -1, 0, -1);
        x.set(0, 1);
        e.due("the first one needs more: it waits", 2, x.actor(0, 0));
        e.due("the second one needs another one: it waits", 2, x.actor(1, 0));
        e.due("the third one has what it needs", 0, x.actor(2, 3));
        e.due("it runs", 2, x.count(0));
        e.due("what it needed is taken", 0, x.object(0, 4));
    }

    private static void aGateLetsOneThrough(Edges e) {
        e.sentence("a GATE is not SIGNALED any more");
        ExecutiveDesk x = sevenWait(1);
        x.set(0, 1);
        e.due("six wait still", 6, waiting(x));
        e.due("it is not", 0, x.object(0, 4));
        ExecutiveDesk y = Checks.desk(0);
        y.create(1, 0, -1);
        y.set(0, 1);
        e.due("nobody waits: it is", 1, y.object(0, 4));
    }

    private static void aNoteLetsAllThrough(Edges e) {
        e.sentence("NOTE and TIMER stay");
        ExecutiveDesk x = sevenWait(0);
        x.set(0, 1);
        e.due("none waits", 0, waiting(x));
        e.due("the note stays", 1, x.object(0, 4));
        ExecutiveDesk y = sevenWait(4);
        y.set(0, 1);
        y.tick(1);
        e.due("none waits", 0, waiting(y));
        e.due("the timer stays", 1, y.object(0, 4));
    }

    private static void aCountLetsAsManyThrough(Edges e) {
        e.sentence("the COUNT is one less");
        for (int n = 1; n <= 9; n++) {
            ExecutiveDesk x = sevenWait(3);
            x.set(0, n);
            e.due(n + " more: who waits still", Math.max(0, 7 - n), waiting(x));
            e.due(n + " more: what is left", Math.max(0, n - 7), x.object(0, 4));
        }
    }

    private static void aMutantIsHadByOne(Edges e) {
        e.sentence("the MUTANT is had once more by that THREAD (and not ABANDONED)");
        ExecutiveDesk x = Checks.desk(1, 1, 1);
        x.create(2, 1, -1);
        x.tick(3);
        x.await(0, -1, -1, 0, -1);
        x.await(0, -1, -1, 0, -1);
        x.set(0, 1);
        e.due("the first one has it", 1, x.object(0, 5));
        e.due("once", 1, x.object(0, 4));
        e.due("the second one waits", 2, x.actor(2, 0));
        x.exit();
        x.exit();
        e.due("the second one has it", 2, x.object(0, 5));
        e.due("which was abandoned", 16, x.actor(2, 3));
        e.due("and is not any more", 0, x.object(0, 6));
    }

    private static void anyOfThree(Edges e) {
        e.sentence("A wait for ANY is satisfied if one of its OBJECTS is SIGNALED (for that THREAD)");
        for (int place = 0; place < 3; place++) {
            ExecutiveDesk x = Checks.desk(3, 2);
            for (int h = 0; h < 3; h++) {
                x.create(1, 0, -1);
            }
            x.await(0, 1, 2, 0, -1);
            x.set(place, 1);
            e.due("place " + place, place, x.actor(0, 3));
            e.due("it was taken", 0, x.object(place, 4));
        }
    }

    private static void allOfThree(Edges e) {
        e.sentence("one for ALL if all are: all are TAKEN, the RESULT is 0");
        for (int last = 0; last < 3; last++) {
            ExecutiveDesk x = Checks.desk(3, 2);
            for (int h = 0; h < 3; h++) {
                x.create(1, 0, -1);
            }
            x.await(0, 1, 2, 1, -1);
            x.set((last + 1) % 3, 1);
            e.due("one of three", 2, x.actor(0, 0));
            x.set((last + 2) % 3, 1);
            e.due("two of three", 2, x.actor(0, 0));
            e.due("none is taken", 1, x.object((last + 1) % 3, 4));
            x.set(last, 1);
            e.due("three of three", 0, x.actor(0, 3));
            for (int o = 0; o < 3; o++) {
                e.due("all are taken", 0, x.object(o, 4));
            }
        }
    }

    private static void aPointerForEachPlace(Edges e) {
        e.sentence("one for each place of a wait that goes on and names it");
        for (int places = 1; places <= 3; places++) {
            ExecutiveDesk x = Checks.desk(3, 2);
            for (int h = 0; h < 3; h++) {
                x.create(0, 0, -1);
            }
            x.await(0, places > 1 ? 1 : -1, places > 2 ? 2 : -1, 0, 1);
            for (int o = 0; o < 3; o++) {
                e.due("of " + places + ", object " + o, o < places ? 1 : 0, x.object(o, 3));
            }
            x.tick(1);
            for (int o = 0; o < 3; o++) {
                e.due("the wait is over, object " + o, 0, x.object(o, 3));
            }
        }
    }

    private static void alertedWhenTheLevelIs0(Edges e) {
        e.sentence("When a THREAD WAITS and may be ALERTED, has CALLS, and the LEVEL is 0");
        ExecutiveDesk x = Checks.desk(3, 2);
        x.create(0, 0, -1);
        x.await(0, -1, -1, 2, -1);
        e.due("no calls", 2, x.actor(0, 0));
        x.level(1);
        x.call(0, 1);
        e.due("level 1", 2, x.actor(0, 0));
        x.level(0);
        e.due("level 0", ExecutiveDesk.ALERTED, x.actor(0, 3));
        ExecutiveDesk y = Checks.desk(3, 2);
        y.create(0, 0, -1);
        y.await(0, -1, -1, 0, -1);
        y.call(0, 1);
        y.level(1);
        y.level(0);
        e.due("it may not be", 2, y.actor(0, 0));
    }
}
