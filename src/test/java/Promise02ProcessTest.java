public final class Promise02ProcessTest {
    public static void main(String[] args) {
        Checks c = new Checks("Promise02ProcessTest");
        ExecutiveDesk x = new ExecutiveDesk();
        c.due("groups -1", ExecutiveDesk.REFUSED, x.process(-1));
        c.due("groups 256", ExecutiveDesk.REFUSED, x.process(256));
        c.due("groups far off", ExecutiveDesk.REFUSED, x.process(Integer.MIN_VALUE));
        c.due("groups far off", ExecutiveDesk.REFUSED, x.process(Integer.MAX_VALUE));
        c.due("nothing was made", 0, x.count(3));
        c.due("the first", 0, x.process(0));
        c.due("the second", 1, x.process(255));
        c.due("the third", 2, x.process(1));
        c.due("the fourth", 3, x.process(128));
        c.due("one too many", ExecutiveDesk.FULL, x.process(0));
        c.due("REFUSED comes before FULL", ExecutiveDesk.REFUSED, x.process(256));
        c.due("how many", 4, x.count(3));
        groupsCount(c);
        noNumberComesAgain(c);
        c.end();
    }

    private static void groupsCount(Checks c) {
        for (int group = 0; group < 8; group++) {
            ExecutiveDesk x = new ExecutiveDesk();
            x.process(0);
            x.process(1 << group);
            x.process(255 - (1 << group));
            x.thread(0, 0);
            x.create(0, 0, 0);
            x.rule(0, 1, group, 7);
            x.thread(1, 1);
            c.due("a process of group " + group, 0, x.open(0, 7));
            x.thread(2, 2);
            c.due("a process without group " + group, ExecutiveDesk.DENIED, x.open(0, 7));
        }
    }

    private static void noNumberComesAgain(Checks c) {
        ExecutiveDesk x = Checks.desk(1);
        c.due("the only thread ends", 0, x.exit());
        c.due("its process has ended", ExecutiveDesk.REFUSED, x.thread(0, 1));
        c.due("a new process has a new number", 1, x.process(0));
        x.process(0);
        x.process(0);
        c.due("the ended one counts", ExecutiveDesk.FULL, x.process(0));
    }
}
