/** The four examples of the document's Description. */
public final class ExamplesTest {
    private static final Due DUE = new Due();

    public static void main(String[] args) {
        blockedCell();
        attempts();
        text();
        sequences();
        DUE.end();
    }

    private static void blockedCell() {
        ScanDetector x = new ScanDetector();
        DUE.is("1: connect(3, 7, false)", x.connect(3, 7, false), 0);
        DUE.is("1: connect(3, 7, false) again", x.connect(3, 7, false), 4);
        DUE.is("1: connect(3, 8, false)", x.connect(3, 8, false), 0);
        DUE.is("1: connect(3, 9, false)", x.connect(3, 9, false), 0);
        DUE.is("1: connect(3, 10, false)", x.connect(3, 10, false), 1);
        DUE.is("1: isBlocked(3)", x.isBlocked(3), 1);
        DUE.is("1: score(3)", x.score(3), 12);
        DUE.is("1: connect(3, 11, true)", x.connect(3, 11, true), 3);
        DUE.is("1: wronglyBlocked(3)", x.wronglyBlocked(3), 1);
        DUE.is("1: describeVerdict(0)", x.describeVerdict(0), 31);
    }

    private static void attempts() {
        ScanDetector x = new ScanDetector();
        DUE.is("2: attempt(1, 5)", x.attempt(1, 5), 0);
        DUE.is("2: advance(2)", x.advance(2), 0);
        DUE.is("2: describeAttempt(0)", x.describeAttempt(0), 1105);
        DUE.is("2: advance(1)", x.advance(1), 1);
        DUE.is("2: score(1)", x.score(1), 3);
        DUE.is("2: answer(1, 5)", x.answer(1, 5), -108);
        DUE.is("2: attempt(1, 5) again", x.attempt(1, 5), 4);
        DUE.is("2: attempt(1, 6)", x.attempt(1, 6), 0);
        DUE.is("2: answer(1, 6)", x.answer(1, 6), 0);
        DUE.is("2: score(1) at the end", x.score(1), 1);
    }

    private static void text() {
        ScanDetector x = new ScanDetector();
        int[] wrongCodes = {51, 62, 51, 50, 45};
        for (int i = 0; i < 5; i++) {
            DUE.is("3: append(" + wrongCodes[i] + ")", x.append(wrongCodes[i]), i + 1);
        }
        DUE.is("3: runInput()", x.runInput(), -103);
        DUE.is("3: firstError()", x.firstError(), 3);
        DUE.is("3: clearInput()", x.clearInput(), 5);
        int[] rightCodes = {51, 62, 48, 55, 45};
        for (int i = 0; i < 5; i++) {
            DUE.is("3: append(" + rightCodes[i] + ")", x.append(rightCodes[i]), i + 1);
        }
        DUE.is("3: runInput() at the end", x.runInput(), 1);
        DUE.is("3: score(3)", x.score(3), 3);
    }

    private static void sequences() {
        ScanDetector x = new ScanDetector();
        DUE.is("4: configure(1, 1, 2, -2)", x.configure(1, 1, 2, -2), 8);
        DUE.is("4: countSequences(2, 1)", x.countSequences(2, 1), 1);
        DUE.is("4: countSequences(3, 1)", x.countSequences(3, 1), 2);
        DUE.is("4: countSequences(4, 0)", x.countSequences(4, 0), 4);
        DUE.is("4: scannerProbability(50, 4)", x.scannerProbability(50, 4), 4600427019358961664L);
        DUE.is("4: configure(1, 1, 0, -2)", x.configure(1, 1, 0, -2), -104);
    }
}
