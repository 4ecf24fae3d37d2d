/**
 * Many runs of calls on the program and on the Model, which must answer alike. A desk promises nothing behind
 * its 512th call, questions among them: so a third of the runs asks every question at its end, a third asks some
 * behind each call, and a third asks none and is as long as a run may be.
 */
public final class ModelTest {
    private static final int RUNS = 12000;
    private static final int CALLS = 512;
    private static final int QUESTIONS = 329;
    private static final Checks c = new Checks("ModelTest");

    private static long seed;
    private static int style;
    private static int left;
    private static boolean same;
    private static final StringBuilder told = new StringBuilder();

    public static void main(String[] args) {
        for (int run = 0; run < RUNS; run++) {
            oneRun(run);
        }
        c.end();
    }

    private static void oneRun(int run) {
        seed = 0x9E3779B97F4A7C15L * (run + 1);
        style = run % 4;
        left = CALLS;
        same = true;
        told.setLength(0);
        ExecutiveDesk x = new ExecutiveDesk();
        Model m = new Model();
        boolean asksAtItsEnd = run % 3 == 0;
        int kept = asksAtItsEnd ? QUESTIONS + any(CALLS - QUESTIONS - 10) : 0;
        for (int i = 0; left > kept && same && !allEnded(m); i++) {
            if (i < 12 * style) {
                makeSomething(x, m, any(20));
            } else {
                step(x, m);
            }
            if (run % 3 == 1) {
                askSome(x, m);
            }
        }
        if (asksAtItsEnd) {
            askAll(x, m);
        }
        c.due("run " + run + ": the same as the model" + (same ? "" : told.toString()), 1, same ? 1 : 0);
        c.due("run " + run + ": not more calls than are promised", 1, left >= 0 ? 1 : 0);
    }

    /** Little can happen then, so such a run is given up before long. */
    private static boolean allEnded(Model m) {
        for (int t = 0; t < m.count(4); t++) {
            if (m.actor(t, 0) != 3) {
                return false;
            }
        }
        return m.count(4) > 0 && any(20) == 0;
    }

    /** A number from 0 to below n, the same in every run of the test. */
    private static int any(int n) {
        seed = seed * 6364136223846793005L + 1442695040888963407L;
        return (int) ((seed >>> 33) % n);
    }

    /** Mostly from the range, at times just outside of it, seldom far off. */
    private static int near(int least, int most) {
        int dice = any(40);
        if (dice == 0) {
            return any(2) == 0 ? least - 1 : most + 1;
        }
        if (dice == 1 && any(4) == 0) {
            return any(2) == 0 ? Integer.MIN_VALUE : Integer.MAX_VALUE;
        }
        return least + any(most - least + 1);
    }

    private static int few(int most) {
        return near(0, style == 0 ? most : Math.min(most, 3));
    }

    /** Mostly a handle of the running thread's process to an object of these types (a sum of 2^type). */
    private static int grip(Model m, int types) {
        int p = m.actor(m.count(0), 1);
        int first = any(8);
        if (any(12) == 0) {
            return few(7);
        }
        for (int i = 0; i < 8; i++) {
            int h = (first + i * 3) % 8;
            int o = m.handle(p, h, 0);
            if (o >= 0 && (types >> m.object(o, 0) & 1) == 1) {
                return h;
            }
        }
        return few(7);
    }

    private static int device(Model m) {
        int first = any(16);
        for (int i = 0; i < 16 && any(12) != 0; i++) {
            int o = (first + i) % 16;
            if (m.object(o, 0) == 5) {
                return o;
            }
        }
        return few(15);
    }

    private static void step(ExecutiveDesk x, Model m) {
        int dice = any(100);
        if (m.count(0) == -1 && any(2) == 0) {
            agree("tick", x.tick(1), m.tick(1), 1);
        } else if (m.count(2) == 1 && any(style == 3 ? 40 : 10) == 0) {
            agree("level", x.level(0), m.level(0), 0);
        } else if (dice < 29) {
            makeSomething(x, m, dice);
        } else if (dice < 49) {
            useHandle(x, m, dice);
        } else if (dice < 62) {
            waitForSome(x, m);
        } else if (dice < 87) {
            useDevice(x, m, dice);
        } else if (dice < 89) {
            if (any(style == 2 ? 2 : 8) == 0) {
                agree("exit", x.exit(), m.exit());
            } else {
                agree("tick", x.tick(1), m.tick(1), 1);
            }
        } else {
            int n = any(3) == 0 ? near(1, 9) : 1;
            agree("tick", x.tick(n), m.tick(n), n);
        }
    }

    private static void makeSomething(ExecutiveDesk x, Model m, int dice) {
        if (dice < 3) {
            int groups = any(3) == 0 ? near(0, 255) : 1 << any(4);
            agree("process", x.process(groups), m.process(groups), groups);
        } else if (dice < 9) {
            int p = few(3);
            int priority = style == 1 ? 3 + any(2) : near(0, 7);
            agree("thread", x.thread(p, priority), m.thread(p, priority), p, priority);
        } else if (dice < 20) {
            int type = near(0, 5);
            int a = type == 3 ? near(0, 9) : type == 5 ? near(0, 7) : type == 4 ? near(0, 0) : near(0, 1);
            int name = any(4) == 0 ? -1 : near(0, style == 3 ? 3 : 15);
            agree("create", x.create(type, a, name), m.create(type, a, name), type, a, name);
        } else {
            int name = near(0, style == 3 ? 3 : 15);
            int rights = any(2) == 0 ? 7 : near(1, 7);
            agree("open", x.open(name, rights), m.open(name, rights), name, rights);
        }
    }

    private static void useHandle(ExecutiveDesk x, Model m, int dice) {
        if (dice < 33) {
            int h = near(0, 7);
            agree("close", x.close(h), m.close(h), h);
        } else if (dice < 36) {
            int h = grip(m, 63);
            int kind = any(3) == 0 ? near(0, 1) : 1;
            int group = any(2) == 0 ? near(0, 7) : any(4);
            int rights = any(2) == 0 ? 7 : near(1, 7);
            agree("rule", x.rule(h, kind, group, rights), m.rule(h, kind, group, rights), h, kind, group, rights);
        } else {
            int h = grip(m, any(4) == 0 ? 4 : any(8) == 0 ? 63 : 31);
            int n = any(2) == 0 ? 1 : any(4) == 0 ? near(0, 99) : near(0, 9);
            agree("set", x.set(h, n), m.set(h, n), h, n);
        }
    }

    private static void waitForSome(ExecutiveDesk x, Model m) {
        int h1 = grip(m, any(3) == 0 ? 4 : 31);
        int h2 = any(5) < 3 ? -1 : grip(m, 31);
        int h3 = any(5) < 3 ? -1 : grip(m, 31);
        int how = near(0, 3);
        int timeout = any(4) == 0 ? 0 : any(6) == 0 ? near(-1, 99) : any(10) == 0 ? -1 : near(1, 6);
        agree("await", x.await(h1, h2, h3, how, timeout), m.await(h1, h2, h3, how, timeout), h1, h2, h3, how, timeout);
    }

    private static void useDevice(ExecutiveDesk x, Model m, int dice) {
        if (dice < 67) {
            int t = near(0, 7);
            int n = near(1, 99);
            agree("call", x.call(t, n), m.call(t, n), t, n);
        } else if (dice < 69) {
            int to = any(3) == 0 ? 1 : near(0, 1);
            agree("level", x.level(to), m.level(to), to);
        } else if (dice < 75) {
            int o = device(m);
            boolean well = any(5) < 2;
            agree("interrupt", x.interrupt(o, well), m.interrupt(o, well), o, well ? 1 : 0);
        } else if (dice < 85) {
            int h = grip(m, 32);
            int place = any(3) == 0 ? near(0, 255) : near(60, 140);
            int length = any(3) == 0 ? near(1, 99) : near(40, 66);
            int e = any(3) == 0 ? -1 : grip(m, 3);
            agree("transfer", x.transfer(h, place, length, e), m.transfer(h, place, length, e), h, place, length, e);
        } else {
            int i = near(0, 7);
            agree("cancel", x.cancel(i), m.cancel(i), i);
        }
    }

    private static void agree(String name, int got, int want, int... args) {
        left--;
        told.append('\n').append(name).append(java.util.Arrays.toString(args)).append(" answered ").append(got);
        if (got != want) {
            told.append(", the model ").append(want);
            same = false;
        }
    }

    private static void askSome(ExecutiveDesk x, Model m) {
        for (int n = 0; n < 3 && left > 0; n++) {
            int dice = any(5);
            if (dice == 0) {
                askActor(x, m, near(0, 7), near(0, 8));
            } else if (dice == 1) {
                askObject(x, m, few(15), near(0, 7));
            } else if (dice == 2) {
                askIo(x, m, few(7), near(0, 6));
            } else if (dice == 3) {
                askHandle(x, m, few(3), near(0, 7), near(0, 1));
            } else {
                askCount(x, m, near(0, 8));
            }
        }
    }

    private static void askAll(ExecutiveDesk x, Model m) {
        for (int what = 0; what <= 8; what++) {
            askCount(x, m, what);
            for (int t = 0; t < 8; t++) {
                askActor(x, m, t, what);
            }
            for (int o = 0; o < 16 && what <= 7; o++) {
                askObject(x, m, o, what);
            }
            for (int i = 0; i < 8 && what <= 6; i++) {
                askIo(x, m, i, what);
            }
        }
        for (int p = 0; p < 4; p++) {
            for (int h = 0; h < 8; h++) {
                askHandle(x, m, p, h, 0);
                askHandle(x, m, p, h, 1);
            }
        }
    }

    private static void askActor(ExecutiveDesk x, Model m, int t, int what) {
        agree("actor", x.actor(t, what), m.actor(t, what), t, what);
    }

    private static void askObject(ExecutiveDesk x, Model m, int o, int what) {
        agree("object", x.object(o, what), m.object(o, what), o, what);
    }

    private static void askIo(ExecutiveDesk x, Model m, int i, int what) {
        agree("io", x.io(i, what), m.io(i, what), i, what);
    }

    private static void askHandle(ExecutiveDesk x, Model m, int p, int h, int what) {
        agree("handle", x.handle(p, h, what), m.handle(p, h, what), p, h, what);
    }

    private static void askCount(ExecutiveDesk x, Model m, int what) {
        agree("count", x.count(what), m.count(what), what);
    }
}
