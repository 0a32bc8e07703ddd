/** Compares answers with those that are due, and ends the test with exit code 1 if one was wrong. */
final class Check {
    private final String name;
    private int made;
    private int wrong;

    Check(String name) {
        this.name = name;
    }

    void is(String what, long got, long due) {
        note(what, got == due, Long.toString(got), Long.toString(due));
    }

    void is(String what, boolean got, boolean due) {
        note(what, got == due, Boolean.toString(got), Boolean.toString(due));
    }

    void is(String what, String got, String due) {
        note(what, got.equals(due), shown(got), shown(due));
    }

    void finish() {
        System.out.println(name + ": " + made + " checks, " + wrong + " wrong");
        if (wrong != 0 || made == 0) {
            System.exit(1);
        }
    }

    private void note(String what, boolean right, String got, String due) {
        made++;
        if (!right) {
            wrong++;
            System.out.println(name + ": " + what + " answered " + got + ", due is " + due);
        }
    }

    private static String shown(String text) {
        StringBuilder out = new StringBuilder("\"");
        for (char c : text.toCharArray()) {
            if (c >= 32 && c < 127) {
                out.append(c);
            } else {
                out.append('<').append((int) c).append('>');
            }
        }
        return out.append('"').toString();
    }
}
