/** Counts the answers of one test that are not the ones that are due. */
final class Check {
    private final String test;
    private int calls = 0;
    private int wrong = 0;

    Check(String test) {
        this.test = test;
    }

    void due(String call, Object got, Object want) {
        calls++;
        if (!got.equals(want)) {
            wrong++;
            System.out.println(test + ": " + call + " answered " + got + ", due is " + want);
        }
    }

    /** The class must be the very one: an ArrayIndexOutOfBoundsException of the machine is no IndexOutOfBoundsException. */
    void dueThrow(String call, Class<? extends RuntimeException> want, Runnable code) {
        String got = "nothing";
        try {
            code.run();
        } catch (RuntimeException e) {
            got = e.getClass().getName();
        }
        due(call + " throws", got, want.getName());
    }

    void dueIndex(String call, Runnable code) {
        dueThrow(call, IndexOutOfBoundsException.class, code);
    }

    void dueArgument(String call, Runnable code) {
        dueThrow(call, IllegalArgumentException.class, code);
    }

    void dueState(String call, Runnable code) {
        dueThrow(call, IllegalStateException.class, code);
    }

    /** Ends the program with 1 if an answer was wrong or nothing was asked. */
    void end() {
        System.out.println(test + ": " + calls + " answers, " + wrong + " of them wrong");
        if (wrong != 0 || calls == 0) {
            System.exit(1);
        }
    }
}
