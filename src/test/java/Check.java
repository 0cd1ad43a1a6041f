/** Compares answers with those that are due, prints the others and ends the program with 1 if there were any. */
final class Check {
    private final String subject;
    private String sentence = null;
    private int askedOfSentence = 0;
    private int asked = 0;
    private int wrong = 0;

    Check(String subject) {
        this.subject = subject;
    }

    /** What is asked from here on stands for this sentence of the document. */
    void sentence(String words) {
        endSentence();
        sentence = words;
        askedOfSentence = 0;
    }

    void due(String call, long want, long got) {
        count();
        if (got != want) {
            tell(call + " answered " + got + ", due is " + want);
        }
    }

    void due(String call, boolean want, boolean got) {
        due(call, want ? 1 : 0, got ? 1 : 0);
    }

    void due(String call, String want, String got) {
        count();
        if (!got.equals(want)) {
            tell(call + " answered\n  " + got + "\ndue is\n  " + want);
        }
    }

    void illegalArgument(String call, Runnable run) {
        throwsDue(call, IllegalArgumentException.class, run);
    }

    void illegalState(String call, Runnable run) {
        throwsDue(call, IllegalStateException.class, run);
    }

    private void throwsDue(String call, Class<?> want, Runnable run) {
        count();
        Class<?> got = null;
        try {
            run.run();
        } catch (RuntimeException e) {
            got = e.getClass();
        }
        if (got != want) {
            tell(call + " threw " + got + ", due is " + want);
        }
    }

    private void count() {
        asked++;
        askedOfSentence++;
    }

    private void tell(String text) {
        wrong++;
        System.out.println(subject + (sentence == null ? "" : " (\"" + sentence + "\")") + ": " + text);
    }

    private void endSentence() {
        if (sentence != null && askedOfSentence == 0) {
            tell("nothing was asked");
        }
    }

    void end() {
        endSentence();
        System.out.println(subject + ": " + asked + " answers, " + wrong + " not as due");
        if (wrong != 0 || asked == 0) {
            System.exit(1);
        }
    }
}
