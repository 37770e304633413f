import java.math.BigInteger;
import java.util.ArrayList;
import java.util.HashSet;
import java.util.List;
import java.util.Set;

/** The edges of promise 28: digest. */
public final class DigestEdgesTest extends EdgeCases {
    public static void main(String[] args) {
        run(DigestEdgesTest.class, 28, 28);
    }

    static void promise28_digest_ofANewObject() {
        is("digest()", new ScanDetector().digest(), new Model().digest());
    }

    static void promise28_digest_ofOneEmptyCell() {
        ScanDetector x = oneCell();
        is("digest()", x.digest(), hash(settings(1, 3, 0), cell(0, 0, 0, 0, 0), list(0), list(0), ANALYSIS, list(0)));
    }

    static void promise28_digest_ofEightEmptyCells() {
        ScanDetector x = configured(1, 1, 1, -1);
        long[] none = cell(0, 0, 0, 0, 0);
        is("digest()", x.digest(), hash(settings(8, 3, 0), none, none, none, none, none, none, none, none,
            list(0), list(0), ANALYSIS, list(0)));
    }

    /** Cells that there are no more are not in the hash, nor what they held. */
    static void promise28_digest_leavesOutCellsBehindTheLast() {
        ScanDetector x = configured(1, 1, 1, -1);
        for (int s = 0; s < 8; s++) {
            x.connect(s, 0, false);
        }
        x.setCells(1);
        is("digest()", x.digest(), oneCell().digest());
    }

    static void promise28_digest_ofABlockedCellWithAllSeen() {
        ScanDetector x = new ScanDetector();
        x.setCells(1);
        x.configure(1, 1, 32, -60);
        is("the 32nd", walk(x, 0, 0, "--------------------------------"), SCANNER);
        x.connect(7, 31, true);
        x.attempt(7, 31);
        Model m = new Model();
        m.setCells(1);
        m.configure(1, 1, 32, -60);
        long[] analysis = {m.countSequences(10, 1), m.countSequences(10, 2), m.scannerProbability(20, 12), m.expectedContacts(20, 12)};
        is("digest()", x.digest(), hash(list(1, 1, 1, 32, -60, 3, 0), cell(32, 1, 4294967295L, 2, 1),
            list(0), list(1, 1), analysis, list(0)));
    }

    static void promise28_digest_ofTwelveAttempts() {
        ScanDetector x = oneCell();
        x.setTimeout(20);
        long[] attempts = new long[13];
        attempts[0] = 12;
        for (int i = 0; i < 12; i++) {
            x.attempt(i % 8, i + 20);
            attempts[i + 1] = 20000 + 100 * (i % 8) + i + 20;
        }
        long[] cell = cell(0, 0, 0xFFFL << 20, 0, 0);
        is("digest()", x.digest(), hash(settings(1, 20, 0), cell, attempts, list(0), ANALYSIS, list(0)));
        x.attempt(0, 0);
        is("digest() after a thirteenth", x.digest(), hash(settings(1, 20, 0), cell, attempts, list(0), ANALYSIS, list(0)));
    }

    // "describeVerdict of the latest ones, from back 0 on, 16 at most"

    static void promise28_digest_of1Verdict() {
        digestOfVerdicts(1);
    }

    static void promise28_digest_of15Verdicts() {
        digestOfVerdicts(15);
    }

    static void promise28_digest_of16Verdicts() {
        digestOfVerdicts(16);
    }

    static void promise28_digest_of17Verdicts() {
        digestOfVerdicts(17);
    }

    static void promise28_digest_of33Verdicts() {
        digestOfVerdicts(33);
    }

    // "the length of the input buffer and each of its character codes"

    static void promise28_digest_ofOneCharacter() {
        ScanDetector x = oneCell();
        x.append(32);
        is("digest()", x.digest(), hash(settings(1, 3, 0), cell(0, 0, 0, 0, 0), list(0), list(0), ANALYSIS, list(1, 32)));
    }

    static void promise28_digest_ofAFullInput() {
        ScanDetector x = oneCell();
        long[] text = new long[60];
        text[0] = 59;
        for (int i = 0; i < 59; i++) {
            x.append(126 - i);
            text[i + 1] = 126 - i;
        }
        long want = hash(settings(1, 3, 0), cell(0, 0, 0, 0, 0), list(0), list(0), ANALYSIS, text);
        is("digest()", x.digest(), want);
        x.append('~');
        is("digest() after a sixtieth", x.digest(), want);
    }

    static void promise28_digest_ofAClearedInput() {
        ScanDetector x = oneCell();
        long before = x.digest();
        type(x, "3>07-");
        x.clearInput();
        is("digest()", x.digest(), before);
    }

    static void promise28_digest_ofTheLatestClock() {
        ScanDetector x = oneCell();
        for (int i = 0; i < 509; i++) {
            x.advance(50);
        }
        is("digest()", x.digest(), hash(settings(1, 3, 25450), cell(0, 0, 0, 0, 0), list(0), list(0), ANALYSIS, list(0)));
    }

    static void promise28_digest_ofTheEdgesOfTheParameters() {
        int[][] settings = {
            {1, 1, 1, -1}, {9, 9, 60, -60}, {9, 1, 60, -1}, {1, 9, 1, -60}, {1, 1, 60, -60}, {9, 9, 1, -1}
        };
        for (int[] s : settings) {
            Model m = new Model();
            m.configure(s[0], s[1], s[2], s[3]);
            is("digest()", configured(s[0], s[1], s[2], s[3]).digest(), m.digest());
        }
    }

    static void promise28_digest_ofANegativeScore() {
        ScanDetector x = new ScanDetector();
        Model m = new Model();
        x.configure(1, 9, 60, -60);
        m.configure(1, 9, 60, -60);
        for (int d = 0; d < 6; d++) {
            x.connect(0, d, true);
            m.connect(0, d, true);
        }
        is("score(0)", x.score(0), -54);
        is("digest()", x.digest(), m.digest());
    }

    // "in long arithmetic with overflow"

    static void promise28_digest_wrapsAroundInLongArithmetic() {
        BigInteger exact = BigInteger.valueOf(1777);
        long[][] parts = {settings(1, 3, 0), cell(0, 0, 0, 0, 0), list(0), list(0), ANALYSIS, list(0)};
        for (long[] part : parts) {
            for (long value : part) {
                exact = exact.multiply(BigInteger.valueOf(31)).add(BigInteger.valueOf(value));
            }
        }
        is("the exact number is larger than a long", exact.bitLength() > 64 ? 1 : 0, 1);
        is("digest()", oneCell().digest(), exact.longValue());
    }

    static void promise28_digest_changesNothing() {
        long digest = busy().digest();
        changesNothing("digest()", EdgeCases::busy, x -> x.digest(), digest);
        is("digest() again", busy().digest(), digest);
    }

    /** Each part of the state alone tells two objects apart. */
    static void promise28_digest_tellsEachPartOfTheState() {
        List<ScanDetector> all = new ArrayList<>();
        for (int i = 0; i < 12; i++) {
            all.add(new ScanDetector());
        }
        all.get(1).setCells(7);
        all.get(2).configure(4, 2, 12, -8);
        all.get(3).configure(3, 3, 12, -8);
        all.get(4).configure(3, 2, 13, -8);
        all.get(5).configure(3, 2, 12, -9);
        all.get(6).setTimeout(4);
        all.get(7).advance(1);
        all.get(8).connect(0, 0, false);
        all.get(9).connect(7, 0, false);
        all.get(10).attempt(0, 0);
        all.get(11).append(' ');
        Set<Long> hashes = new HashSet<>();
        for (ScanDetector x : all) {
            hashes.add(x.digest());
        }
        is("different hashes", hashes.size(), all.size());
    }

    static void promise28_digest_tellsACountedContact() {
        ScanDetector x = withBlocked();
        ScanDetector y = withBlocked();
        x.connect(5, 9, false);
        y.attempt(5, 9);
        is("a failure and an attempt leave the same", x.digest() == y.digest() ? 1 : 0, 1);
        ScanDetector z = withBlocked();
        z.connect(5, 9, true);
        is("a success does not", x.digest() == z.digest() ? 1 : 0, 0);
        is("nor does none", x.digest() == withBlocked().digest() ? 1 : 0, 0);
    }

    // ---- helpers

    /** Of steps 1 and 1 and thresholds 1 and -1, where the first contact decides. */
    private static final long[] ANALYSIS = {
        512, 512, Double.doubleToLongBits(1.0 - 20 / 100.0), Double.doubleToLongBits(1.0)
    };

    private static ScanDetector oneCell() {
        ScanDetector x = new ScanDetector();
        x.setCells(1);
        x.configure(1, 1, 1, -1);
        return x;
    }

    private static long[] list(long... values) {
        return values;
    }

    private static long[] settings(int cells, int timeout, int clock) {
        return list(cells, 1, 1, 1, -1, timeout, clock);
    }

    private static long[] cell(int score, int blocked, long seen, int stopped, int wrong) {
        return list(score, blocked, seen, stopped, wrong);
    }

    private static long hash(long[]... parts) {
        long hash = 1777;
        for (long[] part : parts) {
            for (long value : part) {
                hash = 31 * hash + value;
            }
        }
        return hash;
    }

    /** The n-th verdict is BENIGN where n is even, else SCANNER. */
    private static void digestOfVerdicts(int count) {
        ScanDetector x = oneCell();
        for (int n = 0; n < count; n++) {
            x.connect(0, 0, n % 2 == 0);
            x.unblock(0);
        }
        long[] verdicts = new long[1 + Math.min(count, 16)];
        verdicts[0] = count;
        for (int back = 0; back < verdicts.length - 1; back++) {
            verdicts[back + 1] = (count - 1 - back) % 2 == 0 ? BENIGN : SCANNER;
        }
        is("digest()", x.digest(), hash(settings(1, 3, 0), cell(0, 0, 0, 0, 0), list(0), verdicts, ANALYSIS, list(0)));
    }
}
