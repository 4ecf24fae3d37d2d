/** Each sentence of promise 7, rule, that names a boundary case. */
public final class Edges07RuleTest {
    public static void main(String[] args) {
        Edges e = new Edges("Edges07RuleTest");
        e.needsAThread(x -> x.rule(0, 1, 0, 1));
        e.needsAThread(x -> x.rule(-1, 2, 8, 0));
        howManyItHas(e);
        refusedIfHIsNoHandle(e);
        refusedIfKindIsNot0Or1(e);
        refusedIfGroupIsNot0To7(e);
        refusedIfRightsAreNot1To7(e);
        changeIsNeeded(e);
        fullIfItHas4(e);
        theOrderOfRefusals(e);
        e.end();
    }

    /** Object 0, of the name 0, has this many rules; handle 0 has all rights, handle h has the rights h. */
    private static ExecutiveDesk withRules(int n) {
        ExecutiveDesk x = new ExecutiveDesk();
        x.process(255);
        x.thread(0, 0);
        x.create(0, 0, 0);
        for (int h = 1; h < 8; h++) {
            x.open(0, h);
        }
        for (int at = 0; at < n; at++) {
            x.rule(0, 1, at, 7);
        }
        return x;
    }

    private static void howManyItHas(Edges e) {
        e.sentence("A THREAD appends a rule to the LIST of an OBJECT (CHANGE): how many it has");
        e.each("behind", 0, 3, n -> withRules(n).rule(0, 0, 0, 1), n -> n + 1);
        e.each("told of the object, behind", 0, 4, n -> withRules(n).object(0, 7), n -> n);
        ExecutiveDesk x = withRules(4);
        x.close(1);
        x.create(0, 0, 1);
        e.due("each object has its own", 1, x.rule(1, 0, 0, 1));
        for (int rules = 0; rules < 4; rules++) {
            ExecutiveDesk y = withRules(rules);
            y.close(1);
            y.rule(0, 0, 7, 1);
            e.due("it goes behind the other ones: " + rules, rules == 0 ? ExecutiveDesk.DENIED : 1, y.open(0, 1));
        }
    }

    private static void refusedIfHIsNoHandle(Edges e) {
        e.sentence("REFUSED if h is no HANDLE");
        e.taken("the least", 1, () -> withRules(0), x -> x.rule(0, 1, 0, 1));
        e.taken("the largest", 1, () -> withRules(0), x -> x.rule(7, 1, 0, 1));
        e.outside("h", 0, 7, () -> withRules(0), (x, h) -> x.rule(h, 1, 0, 1));
        e.refused("it was closed", ExecutiveDesk.REFUSED, Edges07RuleTest::closed, x -> x.rule(7, 1, 0, 1));
        e.refused("another process's", ExecutiveDesk.REFUSED, Edges07RuleTest::ofAnother, x -> x.rule(0, 1, 0, 1));
    }

    private static ExecutiveDesk closed() {
        ExecutiveDesk x = withRules(0);
        x.close(7);
        return x;
    }

    private static ExecutiveDesk ofAnother() {
        ExecutiveDesk x = withRules(0);
        x.process(255);
        x.thread(1, 1);
        return x;
    }

    private static void refusedIfKindIsNot0Or1(Edges e) {
        e.sentence("kind not 0 (deny) or 1 (allow)");
        e.inside("kind", 0, 1, () -> withRules(0), (x, kind) -> x.rule(0, kind, 0, 1), kind -> 1);
        e.outside("kind", 0, 1, () -> withRules(1), (x, kind) -> x.rule(0, kind, 0, 1));
        e.due("0 denies", ExecutiveDesk.DENIED, openedBehind(0, 0, 1, 1));
        e.due("1 allows", 1, openedBehind(1, 0, 1, 1));
    }

    private static void refusedIfGroupIsNot0To7(Edges e) {
        e.sentence("group not 0..7");
        e.inside("group", 0, 7, () -> withRules(0), (x, group) -> x.rule(0, 1, group, 1), group -> 1);
        e.each("its group is allowed:", 0, 7, group -> openedBehind(1, group, 7, 7), group -> 1);
        e.outside("group", 0, 7, () -> withRules(1), (x, group) -> x.rule(0, 1, group, 1));
        for (int group = 0; group <= 7; group++) {
            e.due("one that is in group " + group + " alone", 0, openedByAnother(1 << group, group));
            e.due("one that is in all but group " + group, ExecutiveDesk.DENIED, openedByAnother(255 - (1 << group), group));
        }
    }

    /** Opens the object in another process, of these groups, behind a rule that allows it to one group. */
    private static int openedByAnother(int groups, int group) {
        ExecutiveDesk x = withRules(0);
        x.rule(0, 1, group, 7);
        x.process(groups);
        x.thread(1, 1);
        return x.open(0, 7);
    }

    private static void refusedIfRightsAreNot1To7(Edges e) {
        e.sentence("or rights not 1..7");
        e.inside("rights", 1, 7, () -> withRules(0), (x, rights) -> x.rule(0, 1, 0, rights), rights -> 1);
        e.each("its rights are allowed:", 1, 7, rights -> openedBehind(1, 0, rights, rights), rights -> 1);
        e.each("the other ones are not:", 1, 6, rights -> openedBehind(1, 0, rights, 7 - rights), rights -> ExecutiveDesk.DENIED);
        e.outside("rights", 1, 7, () -> withRules(1), (x, rights) -> x.rule(0, 1, 0, rights));
    }

    /** Opens the object with the rights wanted, behind this rule alone. */
    private static int openedBehind(int kind, int group, int rights, int wanted) {
        ExecutiveDesk x = withRules(0);
        x.close(1);
        x.rule(0, kind, group, rights);
        return x.open(0, wanted);
    }

    private static void changeIsNeeded(Edges e) {
        e.sentence("A THREAD appends a rule to the LIST of an OBJECT (CHANGE)");
        for (int n = 1; n <= 7; n++) {
            int h = n;
            if ((h & 2) != 0) {
                e.taken("rights " + h, 1, () -> withRules(0), x -> x.rule(h, 1, 0, 1));
            } else {
                e.refused("rights " + h, ExecutiveDesk.DENIED, () -> withRules(0), x -> x.rule(h, 1, 0, 1));
            }
        }
    }

    private static void fullIfItHas4(Edges e) {
        e.sentence("FULL if it has 4");
        e.taken("the fourth", 4, () -> withRules(3), x -> x.rule(0, 0, 7, 7));
        e.refused("a fifth", ExecutiveDesk.FULL, () -> withRules(4), x -> x.rule(0, 0, 7, 7));
        e.refused("a fifth by another handle", ExecutiveDesk.FULL, () -> withRules(4), x -> x.rule(2, 1, 0, 1));
    }

    private static void theOrderOfRefusals(Edges e) {
        e.sentence("tested in the order: .. REFUSED, DENIED, then what else is named, in that order");
        e.refused("a wrong kind without CHANGE", ExecutiveDesk.REFUSED, () -> withRules(0), x -> x.rule(5, 2, 0, 1));
        e.refused("a wrong group without CHANGE", ExecutiveDesk.REFUSED, () -> withRules(0), x -> x.rule(5, 1, 8, 1));
        e.refused("wrong rights without CHANGE", ExecutiveDesk.REFUSED, () -> withRules(0), x -> x.rule(5, 1, 0, 0));
        e.refused("no handle, four rules", ExecutiveDesk.REFUSED, () -> withRules(4), x -> x.rule(8, 1, 0, 1));
        e.refused("a wrong kind, four rules", ExecutiveDesk.REFUSED, () -> withRules(4), x -> x.rule(0, -1, 0, 1));
        e.refused("a wrong group, four rules", ExecutiveDesk.REFUSED, () -> withRules(4), x -> x.rule(0, 1, -1, 1));
        e.refused("wrong rights, four rules", ExecutiveDesk.REFUSED, () -> withRules(4), x -> x.rule(0, 1, 0, 8));
        e.refused("four rules without CHANGE", ExecutiveDesk.DENIED, () -> withRules(4), x -> x.rule(5, 1, 0, 1));
        e.sentence("HIGH (where said: the LEVEL is 1)");
        ExecutiveDesk x = withRules(0);
        x.level(1);
        e.due("it is not said here", 1, x.rule(0, 1, 0, 1));
    }
}
