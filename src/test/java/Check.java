/** Counts the answers of one test that are not the ones that are due. */
final class Check {
    private final String test;
    private int calls = 0;
    private int wrong = 0;
    /** The sentence of the document that is under test, or an empty text. */
    private String sentence = "";
    private int callsBeforeSentence = 0;

    Check(String test) {
        this.test = test;
    }

    /** Names the sentence of the document, by its own words, that the answers from here on are due by. */
    void sentence(String words) {
        endSentence();
        sentence = words;
        callsBeforeSentence = calls;
    }

    /** A sentence that was named must have been asked for. */
    private void endSentence() {
        if (!sentence.isEmpty() && calls == callsBeforeSentence) {
            wrong++;
            System.out.println(test + ": nothing was asked for \"" + sentence + "\"");
        }
    }

    void due(String call, Object got, Object want) {
        calls++;
        if (!got.equals(want)) {
            wrong++;
            System.out.println(test + ": " + call + " answered " + got + ", due is " + want
                + (sentence.isEmpty() ? "" : " by \"" + sentence + "\""));
        }
    }

    /** The class must be the very one: an ArrayIndexOutOfBoundsException of the machine is no IndexOutOfBoundsException. */
    void dueThrow(String call, Class<? extends RuntimeException> want, Runnable code) {
        String got = "nothing";
        try {
            code.run();
        } catch (RuntimeException e) {
            got = e.getClass().getName();
        }
        due(call + " throws", got, want.getName());
    }

    void dueIndex(String call, Runnable code) {
        dueThrow(call, IndexOutOfBoundsException.class, code);
    }

    void dueArgument(String call, Runnable code) {
        dueThrow(call, IllegalArgumentException.class, code);
    }

    void dueState(String call, Runnable code) {
        dueThrow(call, IllegalStateException.class, code);
    }

    /** Ends the program with 1 if an answer was wrong or nothing was asked. */
    void end() {
        endSentence();
        System.out.println(test + ": " + calls + " answers, " + wrong + " of them wrong");
        if (wrong != 0 || calls == 0) {
            System.exit(1);
        }
    }
}
