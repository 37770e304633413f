/** Promises 14 to 24: the state of cells, pending attempts, clock and verdicts. */
public final class StateTest {
    private static final Due DUE = new Due();
    private static final int[] NEVER = {-1, 8, 9, Integer.MIN_VALUE, Integer.MAX_VALUE};

    public static void main(String[] args) {
        cellOf();
        noSuchCell();
        scores();
        blocked();
        seen();
        counters();
        attempts();
        clock();
        verdicts();
        DUE.end();
    }

    private static void cellOf() {
        ScanDetector x = new ScanDetector();
        for (int n = 8; n >= 1; n--) {
            x.setCells(n);
            for (int s = 0; s < 8; s++) {
                DUE.is(n + " cells: cellOf(" + s + ")", x.cellOf(s), s % n);
            }
            for (int s : NEVER) {
                DUE.is(n + " cells: cellOf(" + s + ")", x.cellOf(s), -105);
            }
        }
    }

    private static void noSuchCell() {
        ScanDetector x = new ScanDetector();
        for (int n = 8; n >= 1; n -= 3) {
            x.setCells(n);
            for (int c : new int[] {-1, n, 8, Integer.MIN_VALUE, Integer.MAX_VALUE}) {
                String cell = "(" + c + ") of " + n + " cells";
                DUE.is("score" + cell, x.score(c), -107);
                DUE.is("isBlocked" + cell, x.isBlocked(c), -107);
                DUE.is("seenDestinations" + cell, x.seenDestinations(c), -107);
                DUE.is("blockedContacts" + cell, x.blockedContacts(c), -107);
                DUE.is("wronglyBlocked" + cell, x.wronglyBlocked(c), -107);
            }
        }
    }

    private static void scores() {
        ScanDetector x = new ScanDetector();
        x.configure(9, 7, 60, -60);
        for (int d = 0; d < 6; d++) {
            x.connect(0, d, false);
            x.connect(1, d, true);
            DUE.is("rising", x.score(0), 9 * (d + 1));
            DUE.is("falling", x.score(1), -7 * (d + 1));
        }
        DUE.is("a scanner", x.connect(0, 6, false), 1);
        DUE.is("the score with which it was blocked", x.score(0), 63);
        x.connect(0, 7, true);
        x.advance(9);
        DUE.is("it stays", x.score(0), 63);
        x.configure(9, 1, 60, -60);
        for (int d = 0; d < 32; d++) {
            x.connect(2, d, true);
        }
        DUE.is("all destinations", x.score(2), -32);
        DUE.is("the other cells", x.score(0), 0);
    }

    private static void blocked() {
        ScanDetector x = new ScanDetector();
        x.configure(1, 1, 1, -1);
        x.connect(6, 0, false);
        x.connect(5, 0, true);
        for (int c = 0; c < 8; c++) {
            DUE.is("isBlocked(" + c + ")", x.isBlocked(c), c == 6 ? 1 : 0);
        }
        x.unblock(6);
        DUE.is("isBlocked(6) no more", x.isBlocked(6), 0);
    }

    private static void seen() {
        ScanDetector x = new ScanDetector();
        x.configure(1, 1, 60, -60);
        long mask = 0;
        for (int d = 31; d >= 0; d--) {
            if (d % 2 == 0) {
                x.connect(3, d, d % 4 == 0);
            } else if (x.attemptCount() < 12) {
                x.attempt(3, d);
            } else {
                x.connect(3, d, true);
            }
            mask |= 1L << d;
            DUE.is("seenDestinations(3) from " + d, x.seenDestinations(3), mask);
        }
        DUE.is("all of them", x.seenDestinations(3), 4294967295L);
        DUE.is("another cell", x.seenDestinations(4), 0);
    }

    private static void counters() {
        ScanDetector x = new ScanDetector();
        x.setCells(4);
        x.configure(1, 1, 1, -60);
        x.connect(3, 0, false);
        x.connect(2, 0, false);
        x.connect(3, 1, true); // by source 3
        x.connect(7, 1, true); // by source 7, the same cell
        x.connect(7, 2, false);
        x.attempt(3, 3);
        x.attempt(2, 3);
        DUE.is("blockedContacts(3)", x.blockedContacts(3), 4);
        DUE.is("wronglyBlocked(3)", x.wronglyBlocked(3), 2);
        DUE.is("blockedContacts(2)", x.blockedContacts(2), 1);
        DUE.is("wronglyBlocked(2)", x.wronglyBlocked(2), 0);
        x.unblock(3);
        x.connect(3, 1, true);
        x.connect(3, 1, true);
        DUE.is("passed and repeated ones are not counted", x.blockedContacts(3), 4);
        DUE.is("nor as wrong", x.wronglyBlocked(3), 2);
        DUE.is("blockedContacts(0)", x.blockedContacts(0), 0);
    }

    private static void attempts() {
        ScanDetector x = new ScanDetector();
        DUE.is("none", x.attemptCount(), 0);
        DUE.is("describeAttempt(0) of none", x.describeAttempt(0), -108);
        x.setTimeout(20);
        x.attempt(7, 31);
        x.advance(3);
        x.setTimeout(4);
        x.attempt(0, 9);
        x.attempt(7, 0);
        DUE.is("attemptCount()", x.attemptCount(), 3);
        DUE.is("describeAttempt(0)", x.describeAttempt(0), 17731);
        DUE.is("describeAttempt(1)", x.describeAttempt(1), 4009);
        DUE.is("describeAttempt(2)", x.describeAttempt(2), 4700);
        for (int i : new int[] {-1, 3, 11, 12, Integer.MIN_VALUE, Integer.MAX_VALUE}) {
            DUE.is("describeAttempt(" + i + ")", x.describeAttempt(i), -108);
        }
        x.advance(4);
        DUE.is("two failed", x.attemptCount(), 1);
        DUE.is("describeAttempt(0) later", x.describeAttempt(0), 13731);
        DUE.is("describeAttempt(1) later", x.describeAttempt(1), -108);
        x.answer(7, 31);
        DUE.is("answered", x.attemptCount(), 0);
    }

    private static void clock() {
        ScanDetector x = new ScanDetector();
        x.advance(50);
        x.advance(1);
        x.advance(0);
        x.connect(0, 0, false);
        DUE.is("clock()", x.clock(), 51);
        for (int i = 0; i < 400; i++) {
            x.advance(50);
        }
        DUE.is("clock() much later", x.clock(), 20051);
        x.attempt(1, 1);
        DUE.is("a deadline much later", x.describeAttempt(0), 3101);
    }

    private static void verdicts() {
        ScanDetector x = new ScanDetector();
        x.configure(1, 1, 1, -1);
        for (int n = 0; n < 40; n++) {
            DUE.is("verdictCount() after " + n, x.verdictCount(), n);
            DUE.is("describeVerdict(15) after " + n, x.describeVerdict(15), n < 16 ? -109 : told(n - 16));
            DUE.is("describeVerdict(0) after " + n, x.describeVerdict(0), n < 1 ? -109 : told(n - 1));
            DUE.is("describeVerdict(3) after " + n, x.describeVerdict(3), n < 4 ? -109 : told(n - 4));
            DUE.is("describeVerdict(4) after " + n, x.describeVerdict(4), n < 5 ? -109 : told(n - 5));
            x.connect(n % 8, n % 32, n % 3 == 0);
            x.unblock(n % 8);
        }
        for (int back = 0; back < 16; back++) {
            DUE.is("describeVerdict(" + back + ")", x.describeVerdict(back), told(39 - back));
        }
        for (int back : new int[] {16, 17, 39, -1, Integer.MIN_VALUE, Integer.MAX_VALUE}) {
            DUE.is("describeVerdict(" + back + ")", x.describeVerdict(back), -109);
        }
        x.setCells(8);
        DUE.is("verdictCount() after a reset", x.verdictCount(), 0);
        DUE.is("describeVerdict(0) after a reset", x.describeVerdict(0), -109);
    }

    private static int told(int n) {
        return 10 * (n % 8) + (n % 3 == 0 ? 2 : 1);
    }
}
