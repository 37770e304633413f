/** Promises 25 to 27: countSequences, scannerProbability, expectedContacts. */
public final class AnalysisTest {
    private static final Due DUE = new Due();
    /** Parameters at their edges and between: up, down, upper, lower. */
    private static final int[][] SETTINGS = {
        {3, 2, 12, -8}, {1, 1, 2, -2}, {1, 1, 1, -1}, {9, 9, 60, -60}, {1, 1, 60, -60}, {9, 1, 60, -1}, {1, 9, 1, -60},
        {9, 9, 1, -1}, {2, 3, 7, -6}, {5, 1, 11, -3}, {1, 6, 4, -20}, {7, 4, 30, -15}
    };

    public static void main(String[] args) {
        smallCounts();
        countRanges();
        countsOfTheModel();
        smallChances();
        chanceRanges();
        chancesOfTheModel();
        stateIsNotUsed();
        DUE.end();
    }

    private static void counts(ScanDetector x, int contacts, int undecided, int scanner, int benign) {
        DUE.is("countSequences(" + contacts + ", 0)", x.countSequences(contacts, 0), undecided);
        DUE.is("countSequences(" + contacts + ", 1)", x.countSequences(contacts, 1), scanner);
        DUE.is("countSequences(" + contacts + ", 2)", x.countSequences(contacts, 2), benign);
    }

    private static void smallCounts() {
        ScanDetector x = new ScanDetector();
        counts(x, 0, 1, 0, 0);
        counts(x, 3, 8, 0, 0);
        counts(x, 4, 14, 1, 1);
        x.configure(1, 1, 1, -1);
        counts(x, 0, 1, 0, 0);
        counts(x, 1, 0, 1, 1);
        counts(x, 20, 0, 524288, 524288);
        x.configure(1, 1, 60, -60);
        counts(x, 20, 1048576, 0, 0);
        x.configure(9, 1, 10, -60);
        counts(x, 2, 3, 1, 0);
        x.configure(1, 9, 60, -10);
        counts(x, 2, 3, 0, 1);
        x.configure(9, 9, 60, -1);
        DUE.is("each sequence counts once",
            x.countSequences(20, 0) + x.countSequences(20, 1) + x.countSequences(20, 2), 1048576);
    }

    private static void countRanges() {
        ScanDetector x = new ScanDetector();
        for (int v : new int[] {-1, 3, 4, Integer.MIN_VALUE, Integer.MAX_VALUE}) {
            DUE.is("countSequences(5, " + v + ")", x.countSequences(5, v), -104);
            DUE.is("countSequences(21, " + v + ")", x.countSequences(21, v), -104);
        }
        for (int n : new int[] {-1, 21, Integer.MIN_VALUE, Integer.MAX_VALUE}) {
            for (int v = 0; v < 3; v++) {
                DUE.is("countSequences(" + n + ", " + v + ")", x.countSequences(n, v), -104);
            }
        }
    }

    /** The model goes through all sequences one by one. */
    private static void countsOfTheModel() {
        for (int[] s : SETTINGS) {
            ScanDetector x = new ScanDetector();
            Model m = new Model();
            x.configure(s[0], s[1], s[2], s[3]);
            m.configure(s[0], s[1], s[2], s[3]);
            for (int n = 0; n <= 20; n++) {
                for (int v = 0; v <= 2; v++) {
                    String call = "configure(" + s[0] + ", " + s[1] + ", " + s[2] + ", " + s[3] + "), countSequences(" + n + ", " + v + ")";
                    DUE.is(call, x.countSequences(n, v), m.countSequences(n, v));
                }
            }
        }
    }

    private static void chance(ScanDetector x, int percent, int contacts, double scanner, double expected) {
        String arguments = "(" + percent + ", " + contacts + ")";
        DUE.is("scannerProbability" + arguments, x.scannerProbability(percent, contacts), Double.doubleToLongBits(scanner));
        DUE.is("expectedContacts" + arguments, x.expectedContacts(percent, contacts), Double.doubleToLongBits(expected));
    }

    private static void smallChances() {
        ScanDetector x = new ScanDetector();
        chance(x, 50, 0, 0.0, 0.0);
        chance(x, 0, 3, 0.0, 3.0);
        chance(x, 0, 4, 1.0, 4.0);
        chance(x, 0, 60, 1.0, 4.0);
        chance(x, 100, 60, 0.0, 4.0);
        chance(x, 50, 4, 0.0625, 4.0);
        x.configure(1, 1, 2, -2);
        chance(x, 50, 4, 0.375, 3.0);
        chance(x, 50, 60, 0.5 - Math.scalb(0.5, -30), 4.0 - Math.scalb(4.0, -30));
        x.configure(1, 1, 60, -60);
        chance(x, 0, 60, 1.0, 60.0);
        chance(x, 100, 60, 0.0, 60.0);
        chance(x, 50, 60, Math.scalb(1.0, -60), 60.0);
        x.configure(9, 9, 1, -1);
        chance(x, 37, 60, 1.0 - 37 / 100.0, 1.0);
    }

    private static void chanceRanges() {
        ScanDetector x = new ScanDetector();
        for (int p : new int[] {-1, 101, Integer.MIN_VALUE, Integer.MAX_VALUE}) {
            DUE.is("scannerProbability(" + p + ", 5)", x.scannerProbability(p, 5), -104);
            DUE.is("expectedContacts(" + p + ", 5)", x.expectedContacts(p, 5), -104);
        }
        for (int n : new int[] {-1, 61, Integer.MIN_VALUE, Integer.MAX_VALUE}) {
            DUE.is("scannerProbability(50, " + n + ")", x.scannerProbability(50, n), -104);
            DUE.is("expectedContacts(50, " + n + ")", x.expectedContacts(50, n), -104);
        }
    }

    /** The bits of every percentage, at lengths that reach the smallest chances (about 1e-120) and the largest sums. */
    private static void chancesOfTheModel() {
        for (int[] s : SETTINGS) {
            Model m = new Model();
            m.configure(s[0], s[1], s[2], s[3]);
            for (int percent = 0; percent <= 100; percent++) {
                ScanDetector x = new ScanDetector();
                x.configure(s[0], s[1], s[2], s[3]);
                for (int n : new int[] {0, 1, 2, 3, 7, 20, 33, 59, 60}) {
                    String call = "configure(" + s[0] + ", " + s[1] + ", " + s[2] + ", " + s[3] + "), (" + percent + ", " + n + ")";
                    DUE.is(call + " scannerProbability", x.scannerProbability(percent, n), m.scannerProbability(percent, n));
                    DUE.is(call + " expectedContacts", x.expectedContacts(percent, n), m.expectedContacts(percent, n));
                }
            }
        }
    }

    /** The analysis starts at score 0, whatever the cells are at, and asking twice answers the same. */
    private static void stateIsNotUsed() {
        ScanDetector x = new ScanDetector();
        long chance = x.scannerProbability(30, 25);
        long expected = x.expectedContacts(30, 25);
        int sequences = x.countSequences(15, 1);
        for (int d = 0; d < 3; d++) {
            x.connect(0, d, false);
        }
        long before = x.digest();
        DUE.is("scannerProbability again", x.scannerProbability(30, 25), chance);
        DUE.is("expectedContacts again", x.expectedContacts(30, 25), expected);
        DUE.is("countSequences again", x.countSequences(15, 1), sequences);
        DUE.is("the analysis changes nothing", x.digest(), before);
    }
}
