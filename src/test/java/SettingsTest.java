/** Promises 1 to 4: a new object, configure, setCells, setTimeout. */
public final class SettingsTest {
    private static final Due DUE = new Due();

    public static void main(String[] args) {
        newObject();
        configureSets();
        configureRanges();
        configureResets();
        setCellsSets();
        setCellsResets();
        setTimeoutSets();
        DUE.end();
    }

    private static void newObject() {
        ScanDetector x = new ScanDetector();
        for (int c = 0; c < 8; c++) {
            DUE.is("new: score(" + c + ")", x.score(c), 0);
            DUE.is("new: isBlocked(" + c + ")", x.isBlocked(c), 0);
            DUE.is("new: seenDestinations(" + c + ")", x.seenDestinations(c), 0);
            DUE.is("new: blockedContacts(" + c + ")", x.blockedContacts(c), 0);
            DUE.is("new: wronglyBlocked(" + c + ")", x.wronglyBlocked(c), 0);
        }
        DUE.is("new: attemptCount()", x.attemptCount(), 0);
        DUE.is("new: clock()", x.clock(), 0);
        DUE.is("new: verdictCount()", x.verdictCount(), 0);
        DUE.is("new: clearInput()", x.clearInput(), 0);
        DUE.is("new: digest() is the model's", x.digest(), new Model().digest());
        x.connect(0, 0, false);
        DUE.is("new: step up", x.score(0), 3);
        x.connect(1, 0, true);
        DUE.is("new: step down", x.score(1), -2);
        DUE.is("new: timeout", x.setTimeout(7), 3);
        DUE.is("new: cells", x.setCells(3), 8);
        // the thresholds: the configuration said outright gives the same hash
        ScanDetector y = new ScanDetector();
        y.configure(3, 2, 12, -8);
        DUE.is("new: digest() as configured by hand", y.digest(), new ScanDetector().digest());
    }

    private static void configureSets() {
        ScanDetector x = new ScanDetector();
        x.setCells(5);
        DUE.is("configure answers the number of cells", x.configure(4, 5, 9, -11), 5);
        x.connect(0, 0, false);
        DUE.is("configure: step up", x.score(0), 4);
        x.connect(1, 0, true);
        DUE.is("configure: step down", x.score(1), -5);
        x.connect(0, 1, false);
        DUE.is("configure: one below the upper threshold", x.isBlocked(0), 0);
        DUE.is("configure: over the upper threshold", x.connect(0, 2, false), 1);
        DUE.is("configure: one above the lower threshold", x.connect(1, 1, true), 0);
        DUE.is("configure: under the lower threshold", x.connect(1, 2, true), 2);
    }

    private static void configureRanges() {
        ScanDetector x = busy();
        long before = x.digest();
        int[][] wrong = {
            {0, 1, 1, -1}, {10, 1, 1, -1}, {-1, 1, 1, -1}, {1, 0, 1, -1}, {1, 10, 1, -1}, {1, 1, 0, -1}, {1, 1, 61, -1},
            {1, 1, 1, 0}, {1, 1, 1, -61}, {1, 1, 1, 1}, {1, 1, -1, -1}, {Integer.MIN_VALUE, 1, 1, -1},
            {1, Integer.MAX_VALUE, 1, -1}, {1, 1, Integer.MAX_VALUE, -1}, {1, 1, 1, Integer.MIN_VALUE}, {10, 0, 0, 0}
        };
        for (int[] w : wrong) {
            String call = "configure(" + w[0] + ", " + w[1] + ", " + w[2] + ", " + w[3] + ")";
            DUE.is(call, x.configure(w[0], w[1], w[2], w[3]), -104);
            DUE.is(call + " changes nothing", x.digest(), before);
        }
        int[][] right = {{1, 1, 1, -1}, {9, 9, 60, -60}, {1, 9, 60, -1}, {9, 1, 1, -60}};
        for (int[] r : right) {
            String call = "configure(" + r[0] + ", " + r[1] + ", " + r[2] + ", " + r[3] + ")";
            DUE.is(call, x.configure(r[0], r[1], r[2], r[3]), 4);
        }
    }

    /** Four cells, one of them blocked with both counters up, one benign, two pending, text typed, time passed. */
    private static ScanDetector busy() {
        ScanDetector x = new ScanDetector();
        x.setCells(4);
        x.setTimeout(9);
        for (int d = 0; d < 4; d++) {
            x.connect(1, d, false);
            x.connect(2, d, true);
        }
        x.connect(1, 9, true);
        x.attempt(1, 9);
        x.attempt(3, 30);
        x.attempt(7, 31);
        x.connect(0, 5, false);
        x.advance(2);
        DUE.type(x, "3>07-");
        return x;
    }

    private static void isReset(String what, ScanDetector x, int cells) {
        for (int c = 0; c < cells; c++) {
            DUE.is(what + ": score(" + c + ")", x.score(c), 0);
            DUE.is(what + ": isBlocked(" + c + ")", x.isBlocked(c), 0);
            DUE.is(what + ": seenDestinations(" + c + ")", x.seenDestinations(c), 0);
            DUE.is(what + ": blockedContacts(" + c + ")", x.blockedContacts(c), 0);
            DUE.is(what + ": wronglyBlocked(" + c + ")", x.wronglyBlocked(c), 0);
        }
        DUE.is(what + ": attemptCount()", x.attemptCount(), 0);
        DUE.is(what + ": describeAttempt(0)", x.describeAttempt(0), -108);
        DUE.is(what + ": answer(3, 30)", x.answer(3, 30), -108);
        DUE.is(what + ": verdictCount()", x.verdictCount(), 0);
        DUE.is(what + ": describeVerdict(0)", x.describeVerdict(0), -109);
        DUE.is(what + ": clock()", x.clock(), 0);
        DUE.is(what + ": the input is kept", x.clearInput(), 5);
        DUE.is(what + ": the timeout is kept", x.setTimeout(9), 9);
    }

    private static void configureResets() {
        ScanDetector x = busy();
        DUE.is("busy: blockedContacts(1)", x.blockedContacts(1), 2);
        DUE.is("busy: wronglyBlocked(1)", x.wronglyBlocked(1), 1);
        DUE.is("busy: attemptCount()", x.attemptCount(), 2);
        DUE.is("busy: verdictCount()", x.verdictCount(), 2);
        DUE.is("configure on a busy object", x.configure(3, 2, 12, -8), 4);
        isReset("configure", x, 4);
        DUE.is("configure: the number of cells is kept", x.score(4), -107);
    }

    private static void setCellsSets() {
        ScanDetector x = new ScanDetector();
        int previous = 8;
        for (int n = 1; n <= 8; n++) {
            DUE.is("setCells(" + n + ")", x.setCells(n), previous);
            DUE.is("setCells(" + n + "): the last cell", x.score(n - 1), 0);
            DUE.is("setCells(" + n + "): no cell behind it", x.score(n), -107);
            previous = n;
        }
        long before = x.digest();
        for (int n : new int[] {0, 9, -1, Integer.MIN_VALUE, Integer.MAX_VALUE}) {
            DUE.is("setCells(" + n + ")", x.setCells(n), -104);
            DUE.is("setCells(" + n + ") changes nothing", x.digest(), before);
        }
    }

    private static void setCellsResets() {
        ScanDetector x = busy();
        DUE.is("setCells of the same number", x.setCells(4), 4);
        isReset("setCells(4)", x, 4);
        x = busy();
        DUE.is("setCells of a larger number", x.setCells(8), 4);
        isReset("setCells(8)", x, 8);
        x = new ScanDetector();
        x.configure(5, 4, 30, -30);
        x.setCells(2);
        x.connect(0, 0, false);
        x.connect(1, 0, true);
        DUE.is("setCells keeps the step up", x.score(0), 5);
        DUE.is("setCells keeps the step down", x.score(1), -4);
        ScanDetector y = new ScanDetector();
        y.setCells(2);
        y.configure(5, 4, 30, -30);
        y.connect(0, 0, false);
        y.connect(1, 0, true);
        DUE.is("setCells keeps the thresholds", x.digest(), y.digest());
        // a cell that is left out and taken in again is as at the start
        x = busy();
        x.setCells(1);
        x.setCells(4);
        isReset("setCells(1), setCells(4)", x, 4);
    }

    private static void setTimeoutSets() {
        ScanDetector x = new ScanDetector();
        x.attempt(0, 0);
        DUE.is("setTimeout(20)", x.setTimeout(20), 3);
        x.attempt(0, 1);
        DUE.is("setTimeout(1)", x.setTimeout(1), 20);
        x.attempt(0, 2);
        DUE.is("an attempt begun before keeps its deadline", x.describeAttempt(0), 3000);
        DUE.is("timeout 20", x.describeAttempt(1), 20001);
        DUE.is("timeout 1", x.describeAttempt(2), 1002);
        long before = x.digest();
        for (int t : new int[] {0, 21, -3, Integer.MIN_VALUE, Integer.MAX_VALUE}) {
            DUE.is("setTimeout(" + t + ")", x.setTimeout(t), -104);
            DUE.is("setTimeout(" + t + ") changes nothing", x.digest(), before);
        }
        DUE.is("setTimeout(2)", x.setTimeout(2), 1);
    }
}
