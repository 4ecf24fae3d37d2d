/** Each sentence of promise 2, process, that names a boundary case. */
public final class Edges02ProcessTest {
    public static void main(String[] args) {
        Edges e = new Edges("Edges02ProcessTest");
        itsNumber(e);
        refusedIfGroupsIsNot0To255(e);
        theLeastAndTheLargestGroups(e);
        fullIfThereWereFour(e);
        refusedIsTestedBeforeFull(e);
        noThreadIsNeeded(e);
        e.end();
    }

    private static ExecutiveDesk withProcesses(int n) {
        ExecutiveDesk x = new ExecutiveDesk();
        for (int p = 0; p < n; p++) {
            x.process(p);
        }
        return x;
    }

    /** Four processes, each of which had one thread that has ended. */
    private static ExecutiveDesk fourThatHaveEnded() {
        ExecutiveDesk x = withProcesses(4);
        for (int p = 0; p < 4; p++) {
            x.thread(p, 1);
            x.exit();
        }
        return x;
    }

    private static void itsNumber(Edges e) {
        e.sentence("A new PROCESS: its number");
        e.each("process", 0, 3, n -> withProcesses(n).process(0), n -> n);
        e.sentence("Both are numbered as they are made, no number comes again");
        ExecutiveDesk x = withProcesses(1);
        x.thread(0, 0);
        x.exit();
        e.due("process 0 has ended", 1, x.process(0));
    }

    private static void refusedIfGroupsIsNot0To255(Edges e) {
        e.sentence("REFUSED if groups is not 0..255");
        e.inside("groups", 0, 255, ExecutiveDesk::new, (x, n) -> x.process(n), n -> 0);
        e.outside("groups", 0, 255, ExecutiveDesk::new, (x, n) -> x.process(n));
        e.outside("groups, behind three", 0, 255, () -> withProcesses(3), (x, n) -> x.process(n));
    }

    private static void theLeastAndTheLargestGroups(Edges e) {
        e.sentence("GROUPS (a set of 0..7, as a sum of 2^group)");
        for (int group = 0; group < 8; group++) {
            e.due("0 has not group " + group, ExecutiveDesk.DENIED, opened(0, group));
            e.due("255 has group " + group, 0, opened(255, group));
            e.due("2^group has group " + group, 0, opened(1 << group, group));
            e.due("all but 2^group have not group " + group, ExecutiveDesk.DENIED, opened(255 - (1 << group), group));
        }
    }

    /** Opens, in a process of these groups, what is allowed to one group alone. */
    private static int opened(int groups, int group) {
        ExecutiveDesk x = new ExecutiveDesk();
        x.process(0);
        x.process(groups);
        x.thread(0, 0);
        x.create(0, 0, 0);
        x.rule(0, 1, group, 7);
        x.thread(1, 1);
        return x.open(0, 7);
    }

    private static void fullIfThereWereFour(Edges e) {
        e.sentence("FULL if there were four");
        e.taken("the fourth", 3, () -> withProcesses(3), x -> x.process(255));
        e.refused("a fifth", ExecutiveDesk.FULL, () -> withProcesses(4), x -> x.process(0));
        e.refused("a fifth of all groups", ExecutiveDesk.FULL, () -> withProcesses(4), x -> x.process(255));
        e.refused("there were four, all have ended", ExecutiveDesk.FULL, Edges02ProcessTest::fourThatHaveEnded, x -> x.process(0));
    }

    private static void refusedIsTestedBeforeFull(Edges e) {
        e.sentence("tested in the order: .. REFUSED, DENIED, then what else is named");
        e.outside("groups, behind four", 0, 255, () -> withProcesses(4), (x, n) -> x.process(n));
    }

    private static void noThreadIsNeeded(Edges e) {
        e.sentence("NOBODY (if a THREAD makes it)");
        e.taken("no thread", 0, ExecutiveDesk::new, x -> x.process(0));
        ExecutiveDesk x = Checks.desk(0);
        x.level(1);
        e.due("at level 1", 1, x.process(0));
    }
}
