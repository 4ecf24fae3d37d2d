/** What the document's section 'Terms' says across the calls. */
public final class TermsTest {
    public static void main(String[] args) {
        Checks c = new Checks("TermsTest");
        releasedInTheOrderInWhichTheyBegan(c);
        anEarlierAllDoesNotHoldUpALaterAny(c);
        aSemaphoreIsSharedOut(c);
        whatIsPutOffStandsInFront(c);
        whoRunsIsLookedAtOnce(c);
        aTransferWakesItsWaiter(c);
        anObjectWithoutHandlesIsReleasedStill(c);
        c.end();
    }

    private static void releasedInTheOrderInWhichTheyBegan(Checks c) {
        ExecutiveDesk x = Checks.desk(1, 2, 3);
        x.create(1, 0, -1);
        x.create(0, 0, -1);
        x.await(1, -1, -1, 0, 1);
        x.await(0, -1, -1, 0, -1);
        x.tick(1);
        x.await(0, -1, -1, 0, -1);
        c.due("thread 0 runs", 0, x.count(0));
        x.set(0, 1);
        c.due("thread 1 began first, though thread 2 is greater", 1, x.count(0));
        c.due("thread 2 waits", 2, x.actor(2, 0));
        x.set(0, 1);
        c.due("then thread 2", 2, x.count(0));
    }

    private static void anEarlierAllDoesNotHoldUpALaterAny(Checks c) {
        ExecutiveDesk x = Checks.desk(3, 2, 1);
        x.create(1, 0, -1);
        x.create(1, 0, -1);
        x.await(0, 1, -1, 1, -1);
        x.await(1, 0, -1, 0, -1);
        x.set(0, 1);
        c.due("the wait for ALL goes on", 2, x.actor(0, 0));
        c.due("the wait for ANY took it, at the second place", 1, x.actor(1, 3));
        c.due("the gate is not signaled", 0, x.object(0, 4));
        c.due("thread 1 runs", 1, x.count(0));
        x.set(1, 1);
        c.due("the gate stays signaled for ALL", 1, x.object(1, 4));
        x.set(0, 1);
        c.due("ALL has both", 0, x.actor(0, 3));
        c.due("taken", 0, x.object(1, 4));
    }

    private static void aSemaphoreIsSharedOut(Checks c) {
        ExecutiveDesk x = Checks.desk(4, 3, 2, 1);
        x.create(3, 0, -1);
        x.create(0, 0, -1);
        x.await(0, -1, -1, 0, -1);
        x.await(0, 1, -1, 1, -1);
        x.await(0, -1, -1, 0, -1);
        x.set(0, 3);
        c.due("thread 0 took one", 0, x.actor(0, 3));
        c.due("thread 1 needs the note too", 2, x.actor(1, 0));
        c.due("thread 2 took one", 0, x.actor(2, 3));
        c.due("one is left", 1, x.object(0, 4));
        x.set(1, 1);
        c.due("thread 1 took it", 0, x.actor(1, 3));
        c.due("none is left", 0, x.object(0, 4));
        c.due("the note stays", 1, x.object(1, 4));
    }

    private static void whatIsPutOffStandsInFront(Checks c) {
        ExecutiveDesk x = Checks.desk(2, 2, 2);
        x.thread(0, 4);
        c.due("thread 3 runs", 3, x.count(0));
        x.thread(0, 3);
        c.due("thread 3 runs on", 3, x.count(0));
        x.exit();
        c.due("thread 4 is next", 4, x.count(0));
        x.exit();
        c.due("thread 0 stood in front", 0, x.count(0));
        x.create(0, 0, -1);
        x.await(0, -1, -1, 0, -1);
        c.due("thread 1", 1, x.count(0));
        x.set(0, 1);
        c.due("one of the same priority does not put it off", 1, x.count(0));
        x.exit();
        c.due("thread 2 stood before", 2, x.count(0));
        x.exit();
        c.due("who became ready stood at the back", 0, x.count(0));
    }

    private static void whoRunsIsLookedAtOnce(Checks c) {
        ExecutiveDesk x = Checks.desk(5, 6, 1);
        x.create(0, 0, -1);
        x.await(0, -1, -1, 0, -1);
        x.await(0, -1, -1, 0, -1);
        c.due("thread 2 runs", 2, x.count(0));
        c.due("four times another one began to run: 0, 1, 0, 2", 4, x.count(7));
        x.set(0, 1);
        c.due("thread 1 runs", 1, x.count(0));
        c.due("thread 0 did not in between", 5, x.count(7));
    }

    private static void aTransferWakesItsWaiter(Checks c) {
        ExecutiveDesk x = Checks.desk(5);
        x.create(5, 0, -1);
        x.create(1, 0, -1);
        x.transfer(0, 0, 3, 1);
        x.await(1, -1, -1, 0, -1);
        c.due("nobody runs", -1, x.count(0));
        c.due("two pointers", 2, x.object(1, 3));
        c.due("an interrupt needs nobody that runs", 1, x.interrupt(0, true));
        c.due("thread 0 runs", 0, x.count(0));
        c.due("the gate was taken", 0, x.object(1, 4));
        c.due("no pointers", 0, x.object(1, 3));
    }

    private static void anObjectWithoutHandlesIsReleasedStill(Checks c) {
        ExecutiveDesk x = Checks.desk(2, 1);
        x.create(4, 0, 3);
        x.set(0, 2);
        x.await(0, -1, -1, 0, -1);
        x.close(0);
        x.tick(2);
        c.due("the timer was due", 0, x.actor(0, 3));
        c.due("the timer is gone", 0, x.count(5));
        x.create(2, 0, 3);
        x.create(0, 0, -1);
        x.await(1, -1, -1, 0, 1);
        x.await(0, -1, -1, 0, 0);
        x.tick(1);
        x.await(0, -1, -1, 0, -1);
        x.close(0);
        c.due("the mutant is had by thread 1", 1, x.object(0, 5));
        x.exit();
        c.due("thread 0 got it, abandoned", 16, x.actor(0, 3));
        c.due("the mutant is gone with the wait", ExecutiveDesk.REFUSED, x.object(0, 0));
    }
}
