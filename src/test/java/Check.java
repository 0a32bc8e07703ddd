/** Compares answers with those that are due, and ends the test with exit code 1 if one was wrong. */
final class Check {
    // A sentence that names an edge needs the case just inside it and the one just outside.
    private static final int LEAST_OF_A_SENTENCE = 2;

    private final String name;
    private String sentence = "";
    private int madeBefore;
    private int made;
    private int wrong;

    Check(String name) {
        this.name = name;
    }

    /** What follows, up to the next sentence, holds this one of the document. */
    void sentence(String words) {
        endSentence();
        sentence = words;
        madeBefore = made;
    }

    void is(String what, long got, long due) {
        note(what, got == due, Long.toString(got), Long.toString(due));
    }

    void is(String what, boolean got, boolean due) {
        note(what, got == due, Boolean.toString(got), Boolean.toString(due));
    }

    void is(String what, String got, String due) {
        note(what, got.equals(due), shown(got), shown(due));
    }

    void finish() {
        endSentence();
        System.out.println(name + ": " + made + " checks, " + wrong + " wrong");
        if (wrong != 0 || made == 0) {
            System.exit(1);
        }
    }

    private void endSentence() {
        if (!sentence.isEmpty() && made - madeBefore < LEAST_OF_A_SENTENCE) {
            wrong++;
            System.out.println(name + ": too few checks of '" + sentence + "'");
        }
    }

    private void note(String what, boolean right, String got, String due) {
        made++;
        if (!right) {
            wrong++;
            System.out.println(name + ": " + sentence + (sentence.isEmpty() ? "" : " / ") + what + " answered " + got
                    + ", due is " + due);
        }
    }

    private static String shown(String text) {
        StringBuilder out = new StringBuilder("\"");
        for (char c : text.toCharArray()) {
            if (c >= 32 && c < 127) {
                out.append(c);
            } else {
                out.append('<').append((int) c).append('>');
            }
        }
        return out.append('"').toString();
    }
}
