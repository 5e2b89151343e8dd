/** Counts the answers that are not as due, and tells them. */
final class Check {
    private final String name;
    private int done = 0;
    private int wrong = 0;

    Check(String name) {
        this.name = name;
    }

    void is(String what, long got, long due) {
        tell(what, Long.toString(got), Long.toString(due));
    }

    void is(String what, boolean got, boolean due) {
        tell(what, Boolean.toString(got), Boolean.toString(due));
    }

    void tell(String what, String got, String due) {
        done++;
        if (!got.equals(due)) {
            wrong++;
            System.out.println(name + ": " + what + " answered " + got + ", due is " + due);
        }
    }

    /** The call must throw an illegal argument and leave all that can be seen of the object as it was. */
    void argument(String what, CardRights on, Runnable call) {
        refused(what, on, call, IllegalArgumentException.class);
    }

    /** The call must throw an illegal state and leave all that can be seen of the object as it was. */
    void state(String what, CardRights on, Runnable call) {
        refused(what, on, call, IllegalStateException.class);
    }

    private void refused(String what, CardRights on, Runnable call, Class<? extends RuntimeException> due) {
        String before = View.of(on);
        String got = "no exception";
        try {
            call.run();
        } catch (RuntimeException thrown) {
            got = thrown.getClass().getName();
        }
        tell(what, got, due.getName());
        tell(what + ", and what is seen then,", View.of(on), before);
    }

    void finish() {
        System.out.println(name + ": " + done + " checks, " + wrong + " wrong");
        if (wrong != 0) {
            System.exit(1);
        }
    }
}
