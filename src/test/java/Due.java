/** Counts and prints the answers that are not the ones that are due. */
final class Due {
    private int checks = 0;
    private int wrong = 0;

    void is(String what, long got, long want) {
        checks++;
        if (got != want) {
            wrong++;
            System.out.println(what + " answered " + got + ", due is " + want);
        }
    }

    void isTrue(String what, boolean holds) {
        is(what, holds ? 1 : 0, 1);
    }

    void fail(String what) {
        checks++;
        wrong++;
        System.out.println(what);
    }

    int checksSoFar() {
        return checks;
    }

    int wrongSoFar() {
        return wrong;
    }

    /** Appends each character of a text and expects the length to grow by one each time. */
    void type(ScanDetector x, String text) {
        for (int i = 0; i < text.length(); i++) {
            int length = x.append(text.charAt(i));
            isTrue("append '" + text.charAt(i) + "' of \"" + text + "\"", length > 0);
        }
    }

    void end() {
        System.out.println(checks + " checks, " + wrong + " wrong");
        if (wrong != 0 || checks == 0) {
            System.exit(1);
        }
    }
}
