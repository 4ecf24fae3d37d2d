public final class Promise07RuleTest {
    public static void main(String[] args) {
        Checks c = new Checks("Promise07RuleTest");
        ExecutiveDesk x = new ExecutiveDesk();
        c.due("NOBODY comes first", ExecutiveDesk.NOBODY, x.rule(-1, 2, 8, 0));
        x.process(0);
        x.thread(0, 0);
        x.create(5, 0, 1);
        c.due("no handle 1", ExecutiveDesk.REFUSED, x.rule(1, 0, 0, 1));
        c.due("no handle -1", ExecutiveDesk.REFUSED, x.rule(-1, 0, 0, 1));
        c.due("no handle 8", ExecutiveDesk.REFUSED, x.rule(8, 0, 0, 1));
        c.due("kind -1", ExecutiveDesk.REFUSED, x.rule(0, -1, 0, 1));
        c.due("kind 2", ExecutiveDesk.REFUSED, x.rule(0, 2, 0, 1));
        c.due("group -1", ExecutiveDesk.REFUSED, x.rule(0, 0, -1, 1));
        c.due("group 8", ExecutiveDesk.REFUSED, x.rule(0, 0, 8, 1));
        c.due("rights 0", ExecutiveDesk.REFUSED, x.rule(0, 0, 0, 0));
        c.due("rights 8", ExecutiveDesk.REFUSED, x.rule(0, 0, 0, 8));
        c.due("no rules yet", 0, x.object(0, 7));
        c.due("open without CHANGE", 1, x.open(1, 5));
        c.due("REFUSED comes before DENIED", ExecutiveDesk.REFUSED, x.rule(1, 0, 0, 8));
        c.due("DENIED", ExecutiveDesk.DENIED, x.rule(1, 0, 0, 1));
        c.due("open with CHANGE alone", 2, x.open(1, 2));
        c.due("the first", 1, x.rule(2, 0, 0, 1));
        c.due("the second", 2, x.rule(0, 1, 7, 7));
        c.due("the third", 3, x.rule(0, 1, 7, 7));
        c.due("the fourth", 4, x.rule(0, 0, 0, 1));
        c.due("four", 4, x.object(0, 7));
        c.due("DENIED comes before FULL", ExecutiveDesk.DENIED, x.rule(1, 0, 0, 1));
        c.due("REFUSED comes before FULL", ExecutiveDesk.REFUSED, x.rule(0, 0, 0, 0));
        c.due("the fifth", ExecutiveDesk.FULL, x.rule(0, 0, 0, 1));
        c.due("four still", 4, x.object(0, 7));
        appended(c);
        c.end();
    }

    private static void appended(Checks c) {
        ExecutiveDesk x = new ExecutiveDesk();
        x.process(4);
        x.thread(0, 0);
        x.create(0, 0, 1);
        c.due("allow ASK", 1, x.rule(0, 1, 2, 1));
        c.due("deny all", 2, x.rule(0, 0, 2, 7));
        c.due("allow all", 3, x.rule(0, 1, 2, 7));
        c.due("ASK is granted before", 1, x.open(1, 1));
        c.due("CHANGE is denied", ExecutiveDesk.DENIED, x.open(1, 2));
        c.due("the handles that there are keep their rights", 7, x.handle(0, 0, 1));
    }
}
