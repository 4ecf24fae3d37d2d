import java.util.function.IntUnaryOperator;
import java.util.function.Supplier;
import java.util.function.ToIntBiFunction;
import java.util.function.ToIntFunction;

/**
 * What the tests of single sentences have in common: the words that are tested, ranges with the next
 * values beyond, and refused calls with what they leave unchanged.
 */
final class Edges {
    /** Enough room for every answer that look or goOn asks for. */
    private static final int ANSWERS = 512;

    private final Checks checks;
    private String sentence = "";

    Edges(String name) {
        checks = new Checks(name);
    }

    /** The words of the document that the checks from here on speak of. */
    void sentence(String words) {
        sentence = words;
    }

    void due(String what, int want, int got) {
        checks.due("\"" + sentence + "\": " + what, want, got);
    }

    void end() {
        checks.end();
    }

    /** The call is taken on a new desk, with this answer. */
    void taken(String what, int want, Supplier<ExecutiveDesk> made, ToIntFunction<ExecutiveDesk> call) {
        due(what, want, call.applyAsInt(made.get()));
    }

    /**
     * The call is refused on a new desk, and neither the questions nor the calls that follow can tell that
     * it was made. Each look is at desks of its own: nothing is promised behind a desk's 512th call.
     */
    void refused(String what, int want, Supplier<ExecutiveDesk> made, ToIntFunction<ExecutiveDesk> call) {
        ExecutiveDesk asked = made.get();
        due(what, want, call.applyAsInt(asked));
        same(what + ", then a question", look(made.get()), look(asked));
        ExecutiveDesk used = made.get();
        call.applyAsInt(used);
        same(what + ", then a call", goOn(made.get()), goOn(used));
    }

    /** The answer is as wanted for every n from least to most. */
    void each(String what, int least, int most, IntUnaryOperator got, IntUnaryOperator want) {
        for (int n = least; n <= most; n++) {
            due(what + " " + n, want.applyAsInt(n), got.applyAsInt(n));
        }
    }

    /** Every value from least to most is taken, each on a new desk. */
    void inside(String what, int least, int most, Supplier<ExecutiveDesk> made,
            ToIntBiFunction<ExecutiveDesk, Integer> call, IntUnaryOperator want) {
        each(what, least, most, n -> call.applyAsInt(made.get(), n), want);
    }

    /** The next values beyond least and most are REFUSED, and those far beyond. */
    void outside(String what, int least, int most, Supplier<ExecutiveDesk> made,
            ToIntBiFunction<ExecutiveDesk, Integer> call) {
        int[] beyond = {least - 1, most + 1, least - 256, most + 256, Integer.MIN_VALUE, Integer.MAX_VALUE};
        for (int n : beyond) {
            refused(what + " " + n, ExecutiveDesk.REFUSED, made, x -> call.applyAsInt(x, n));
        }
    }

    /** The call is made by a thread, so it answers NOBODY wherever none runs, and changes nothing. */
    void needsAThread(ToIntFunction<ExecutiveDesk> call) {
        sentence("Calls that a THREAD makes are made by that which RUNS: NOBODY if none does");
        refused("a new desk", ExecutiveDesk.NOBODY, ExecutiveDesk::new, call);
        refused("a process without threads", ExecutiveDesk.NOBODY, () -> Checks.desk(), call);
        refused("the only thread waits", ExecutiveDesk.NOBODY, Edges::oneThatWaits, call);
        refused("the only thread has ended", ExecutiveDesk.NOBODY, Edges::oneThatHasEnded, call);
    }

    /** Its thread waits without end; handles 0 to 2 are a gate, a device and a note; transfer 0 is pending. */
    private static ExecutiveDesk oneThatWaits() {
        ExecutiveDesk x = Checks.desk(3);
        x.create(1, 0, 0);
        x.create(5, 7, 1);
        x.create(0, 1, 2);
        x.transfer(1, 0, 9, 2);
        x.transfer(1, 0, 9, 2);
        x.await(0, -1, -1, 0, -1);
        return x;
    }

    private static ExecutiveDesk oneThatHasEnded() {
        ExecutiveDesk x = Checks.desk(3);
        x.create(5, 7, 1);
        x.transfer(0, 0, 9, -1);
        x.exit();
        return x;
    }

    private void same(String what, int[] want, int[] got) {
        int at = 0;
        while (at < ANSWERS - 1 && want[at] == got[at]) {
            at++;
        }
        due(what + " (answer " + at + ")", want[at], got[at]);
    }

    /** The answers of all questions: 329 calls. */
    private static int[] look(ExecutiveDesk x) {
        int[] answers = new int[ANSWERS];
        int at = 0;
        for (int what = 0; what <= 8; what++) {
            answers[at++] = x.count(what);
        }
        for (int t = 0; t < 8; t++) {
            for (int what = 0; what <= 8; what++) {
                answers[at++] = x.actor(t, what);
            }
        }
        for (int o = 0; o < 16; o++) {
            for (int what = 0; what <= 7; what++) {
                answers[at++] = x.object(o, what);
            }
        }
        for (int i = 0; i < 8; i++) {
            for (int what = 0; what <= 6; what++) {
                answers[at++] = x.io(i, what);
            }
        }
        for (int p = 0; p < 4; p++) {
            for (int h = 0; h < 8; h++) {
                answers[at++] = x.handle(p, h, 0);
                answers[at++] = x.handle(p, h, 1);
            }
        }
        return answers;
    }

    /** The answers of calls that show what no question does (the order of rows, the rules): 241 calls. */
    private static int[] goOn(ExecutiveDesk x) {
        int[] answers = new int[ANSWERS];
        int at = 0;
        for (int n = 0; n < 4; n++) {
            answers[at++] = x.tick(1);
            answers[at++] = x.count(0);
        }
        answers[at++] = x.level(0);
        for (int o = 0; o < 16; o++) {
            for (int n = 0; n < 2; n++) {
                answers[at++] = x.object(o, 5);
                answers[at++] = x.interrupt(o, n == 0);
            }
        }
        for (int name = 0; name < 16; name++) {
            for (int rights = 1; rights <= 4; rights *= 2) {
                int h = x.open(name, rights);
                answers[at++] = h;
                answers[at++] = x.close(h);
            }
        }
        for (int n = 0; n < 12; n++) {
            answers[at++] = x.tick(9);
            answers[at++] = x.count(0);
        }
        for (int n = 0; n < 8; n++) {
            answers[at++] = x.exit();
            answers[at++] = x.count(0);
        }
        for (int i = 0; i < 8; i++) {
            answers[at++] = x.io(i, 0);
            answers[at++] = x.actor(i, 3);
            answers[at++] = x.actor(i, 5);
            answers[at++] = x.actor(i, 6);
        }
        return answers;
    }
}
