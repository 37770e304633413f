/** Promise 28: digest. */
public final class DigestTest {
    private static final Due DUE = new Due();

    public static void main(String[] args) {
        ofANewObject();
        ofABusyObject();
        ofManyVerdicts();
        DUE.end();
    }

    private static long hash(long... values) {
        long hash = 1777;
        for (long value : values) {
            hash = 31 * hash + value;
        }
        return hash;
    }

    /** The analysis values are taken from the document's worked answers and promises 25 to 27. */
    private static void ofANewObject() {
        ScanDetector x = new ScanDetector();
        long want = hash(8, 3, 2, 12, -8, 3, 0,
            0, 0, 0, 0, 0, 0, 0, 0, 0, 0, 0, 0, 0, 0, 0, 0, 0, 0, 0, 0,
            0, 0, 0, 0, 0, 0, 0, 0, 0, 0, 0, 0, 0, 0, 0, 0, 0, 0, 0, 0,
            0, 0,
            x.countSequences(10, 1), x.countSequences(10, 2), x.scannerProbability(20, 12), x.expectedContacts(20, 12),
            0);
        DUE.is("digest() of a new object", x.digest(), want);
        DUE.is("digest() again", x.digest(), want);
    }

    private static void ofABusyObject() {
        ScanDetector x = new ScanDetector();
        x.setCells(2);
        x.configure(4, 1, 8, -2);
        x.setTimeout(6);
        x.connect(1, 31, false);
        x.connect(3, 30, false); // blocks cell 1 at 8
        x.connect(5, 0, true);
        x.attempt(7, 0);
        x.connect(0, 3, true);
        x.connect(2, 4, true); // benign
        x.attempt(0, 5);
        x.advance(2);
        x.attempt(4, 6);
        x.connect(6, 7, true);
        x.append('3');
        x.append('~');
        long want = hash(2, 4, 1, 8, -2, 6, 2,
            -1, 0, 1 << 5 | 1 << 6 | 1 << 7, 0, 0,
            8, 1, 1L << 31 | 1L << 30, 2, 1,
            2, 4005, 6406,
            2, 2, 11,
            x.countSequences(10, 1), x.countSequences(10, 2), x.scannerProbability(20, 12), x.expectedContacts(20, 12),
            2, '3', '~');
        DUE.is("digest() of a busy object", x.digest(), want);
    }

    private static void ofManyVerdicts() {
        ScanDetector x = new ScanDetector();
        x.setCells(1);
        x.configure(1, 1, 1, -1);
        for (int n = 0; n < 17; n++) {
            x.connect(0, n, n % 2 == 0);
            x.unblock(0);
        }
        // the latest is benign; the first of the 17 is not told
        long want = hash(1, 1, 1, 1, -1, 3, 0, 0, 0, 0, 0, 0, 0,
            17, 2, 1, 2, 1, 2, 1, 2, 1, 2, 1, 2, 1, 2, 1, 2, 1,
            512, 512, Double.doubleToLongBits(1.0 - 20 / 100.0), Double.doubleToLongBits(1.0), 0);
        DUE.is("digest() of many verdicts", x.digest(), want);
    }
}
