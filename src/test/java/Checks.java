/** Counts what a test looked at and ends the program with 1 if something was not as due. */
final class Checks {
    private final String name;
    private int made;
    private int wrong;

    Checks(String name) {
        this.name = name;
    }

    void due(String what, int want, int got) {
        made++;
        if (want != got) {
            wrong++;
            System.out.println(name + ": " + what + " answered " + got + ", due is " + want);
        }
    }

    void end() {
        System.out.println(name + ": " + made + " checks, " + wrong + " wrong");
        if (wrong != 0 || made == 0) {
            System.exit(1);
        }
    }

    /** A desk with process 0 of no groups and a thread in it for each priority. */
    static ExecutiveDesk desk(int... priorities) {
        ExecutiveDesk x = new ExecutiveDesk();
        x.process(0);
        for (int priority : priorities) {
            x.thread(0, priority);
        }
        return x;
    }
}
