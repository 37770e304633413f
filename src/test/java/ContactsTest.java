/** Promises 5 to 9: connect, attempt, answer, advance, unblock. */
public final class ContactsTest {
    private static final Due DUE = new Due();
    private static final int[] NOT_SOURCES = {-1, 8, Integer.MIN_VALUE, Integer.MAX_VALUE};
    private static final int[] NOT_DESTINATIONS = {-1, 32, 64, Integer.MIN_VALUE, Integer.MAX_VALUE};

    public static void main(String[] args) {
        connectVerdicts();
        connectThresholds();
        connectBlocked();
        connectSharedCell();
        wrongNumbers();
        attemptPends();
        attemptLimit();
        answerSucceeds();
        answerTheFirst();
        advanceOrder();
        advanceDiscards();
        twelveAtOnce();
        advanceRanges();
        unblockCell();
        DUE.end();
    }

    private static void connectVerdicts() {
        ScanDetector x = new ScanDetector();
        DUE.is("a failure", x.connect(0, 0, false), 0);
        DUE.is("its score", x.score(0), 3);
        DUE.is("repeated, now a success", x.connect(0, 0, true), 4);
        DUE.is("repeated changes no score", x.score(0), 3);
        DUE.is("a success", x.connect(0, 31, true), 0);
        DUE.is("its score", x.score(0), 1);
        DUE.is("seen", x.seenDestinations(0), 1L | 1L << 31);
        DUE.is("another cell", x.connect(1, 0, true), 0);
        DUE.is("a second success", x.connect(1, 1, true), 0);
        DUE.is("a third success", x.connect(1, 2, true), 0);
        DUE.is("benign", x.connect(1, 3, true), 2);
        DUE.is("benign: score", x.score(1), 0);
        DUE.is("benign: seen", x.seenDestinations(1), 0);
        DUE.is("benign: not blocked", x.isBlocked(1), 0);
        DUE.is("benign: a first contact again", x.connect(1, 3, true), 0);
        DUE.is("the other cell is as it was", x.score(0), 1);
    }

    private static void connectThresholds() {
        ScanDetector x = new ScanDetector();
        x.configure(2, 3, 4, -6);
        x.connect(0, 0, false);
        DUE.is("exactly the upper threshold", x.connect(0, 1, false), 1);
        x.connect(1, 0, true);
        DUE.is("exactly the lower threshold", x.connect(1, 1, true), 2);
        x.configure(2, 3, 5, -7);
        x.connect(0, 0, false);
        DUE.is("one below the upper threshold", x.connect(0, 1, false), 0);
        DUE.is("beyond the upper threshold", x.connect(0, 2, false), 1);
        DUE.is("the score with which it was blocked", x.score(0), 6);
        x.connect(1, 0, true);
        DUE.is("one above the lower threshold", x.connect(1, 1, true), 0);
        DUE.is("beyond the lower threshold", x.connect(1, 2, true), 2);
        x.configure(9, 9, 1, -1);
        DUE.is("one failure is enough", x.connect(0, 0, false), 1);
        DUE.is("one success is enough", x.connect(1, 0, true), 2);
    }

    private static ScanDetector withBlocked(int source) {
        ScanDetector x = new ScanDetector();
        x.setTimeout(20);
        for (int d = 0; d < 4; d++) {
            x.connect(source, d, false);
        }
        return x;
    }

    private static void connectBlocked() {
        ScanDetector x = withBlocked(5);
        DUE.is("blocked", x.isBlocked(5), 1);
        DUE.is("blocked: a success", x.connect(5, 9, true), 3);
        DUE.is("blocked: a failure", x.connect(5, 9, false), 3);
        DUE.is("blocked: a seen destination", x.connect(5, 0, true), 3);
        DUE.is("blocked: score", x.score(5), 12);
        DUE.is("blocked: seen", x.seenDestinations(5), 15);
        DUE.is("blocked: blockedContacts", x.blockedContacts(5), 3);
        DUE.is("blocked: wronglyBlocked", x.wronglyBlocked(5), 2);
        DUE.is("blocked: verdictCount", x.verdictCount(), 1);
    }

    private static void connectSharedCell() {
        ScanDetector x = new ScanDetector();
        x.setCells(3);
        DUE.is("source 1 in cell 1", x.connect(1, 4, false), 0);
        DUE.is("source 7 in cell 1", x.connect(7, 4, true), 4);
        DUE.is("source 4 in cell 1", x.connect(4, 5, false), 0);
        DUE.is("the cell's score", x.score(1), 6);
    }

    private static void wrongNumbers() {
        ScanDetector x = withBlocked(5);
        x.attempt(2, 2);
        long before = x.digest();
        for (int s : NOT_SOURCES) {
            DUE.is("connect(" + s + ", 0)", x.connect(s, 0, true), -105);
            DUE.is("connect(" + s + ", 32)", x.connect(s, 32, true), -105);
            DUE.is("attempt(" + s + ", 0)", x.attempt(s, 0), -105);
            DUE.is("attempt(" + s + ", 32)", x.attempt(s, 32), -105);
            DUE.is("answer(" + s + ", 2)", x.answer(s, 2), -108);
        }
        for (int d : NOT_DESTINATIONS) {
            DUE.is("connect(0, " + d + ")", x.connect(0, d, true), -106);
            DUE.is("connect(5, " + d + ") though blocked", x.connect(5, d, true), -106);
            DUE.is("attempt(0, " + d + ")", x.attempt(0, d), -106);
            DUE.is("attempt(5, " + d + ") though blocked", x.attempt(5, d), -106);
            DUE.is("answer(2, " + d + ")", x.answer(2, d), -108);
        }
        DUE.is("wrong numbers change nothing", x.digest(), before);
    }

    private static void attemptPends() {
        ScanDetector x = withBlocked(5);
        DUE.is("an attempt", x.attempt(2, 17), 0);
        DUE.is("it is pending", x.attemptCount(), 1);
        DUE.is("its destination is seen", x.seenDestinations(2), 1L << 17);
        DUE.is("the score has not changed", x.score(2), 0);
        DUE.is("repeated", x.attempt(2, 17), 4);
        DUE.is("repeated by connect", x.connect(2, 17, true), 4);
        DUE.is("repeated: still one", x.attemptCount(), 1);
        x.connect(2, 18, false);
        DUE.is("repeats a connect", x.attempt(2, 18), 4);
        DUE.is("blocked", x.attempt(5, 20), 3);
        DUE.is("blocked, a seen destination", x.attempt(5, 0), 3);
        DUE.is("blocked: counted", x.blockedContacts(5), 2);
        DUE.is("blocked: not as wrong", x.wronglyBlocked(5), 0);
        DUE.is("blocked: not pending", x.attemptCount(), 1);
        DUE.is("blocked: not seen", x.seenDestinations(5), 15);
    }

    private static void attemptLimit() {
        ScanDetector x = withBlocked(5);
        for (int d = 0; d < 12; d++) {
            DUE.is("attempt " + d, x.attempt(d % 4, d), 0);
        }
        long before = x.digest();
        DUE.is("a thirteenth", x.attempt(0, 12), -110);
        DUE.is("a thirteenth changes nothing", x.digest(), before);
        DUE.is("repeated, though full", x.attempt(0, 4), 4);
        DUE.is("blocked, though full", x.attempt(5, 30), 3);
        DUE.is("no such source, though full", x.attempt(8, 0), -105);
        DUE.is("no such destination, though full", x.attempt(0, 32), -106);
        DUE.is("connect, though full", x.connect(0, 13, true), 0);
        DUE.is("one is answered", x.answer(3, 3), 0);
        DUE.is("room again", x.attempt(0, 12), 0);
        DUE.is("full again", x.attempt(0, 14), -110);
        DUE.is("the newest is last", x.describeAttempt(11), 20012);
        DUE.is("the fourth moved up", x.describeAttempt(3), 20004);
    }

    private static void answerSucceeds() {
        ScanDetector x = new ScanDetector();
        DUE.is("nothing to answer", x.answer(0, 0), -108);
        x.connect(0, 9, false);
        DUE.is("a connect is not to answer", x.answer(0, 9), -108);
        x.attempt(0, 0);
        x.attempt(1, 0);
        DUE.is("not this source's", x.answer(2, 0), -108);
        DUE.is("not this destination's", x.answer(0, 1), -108);
        DUE.is("an answer", x.answer(1, 0), 0);
        DUE.is("its score", x.score(1), -2);
        DUE.is("the other's score", x.score(0), 3);
        DUE.is("one is left", x.describeAttempt(0), 3000);
        DUE.is("one is left: count", x.attemptCount(), 1);
        DUE.is("answered once", x.answer(1, 0), -108);
        DUE.is("still seen", x.attempt(1, 0), 4);
        DUE.is("it does not fail any more", x.advance(50), 1);
        // an answer by another source of the cell is not this attempt's
        x.setCells(1);
        x.attempt(0, 0);
        DUE.is("another source of the cell", x.answer(1, 0), -108);
        // a verdict BENIGN keeps what pends, and forgets what was seen
        x.configure(1, 1, 5, -1);
        x.attempt(0, 0);
        x.attempt(0, 1);
        DUE.is("benign by an answer", x.answer(0, 0), 2);
        DUE.is("benign: the other pends", x.describeAttempt(0), 3001);
        DUE.is("benign: nothing seen", x.seenDestinations(0), 0);
        DUE.is("benign: told", x.describeVerdict(0), 2);
        DUE.is("the other is answered", x.answer(0, 1), 2);
        DUE.is("an answer puts nothing into the seen set", x.seenDestinations(0), 0);
    }

    private static void answerTheFirst() {
        ScanDetector x = new ScanDetector();
        x.configure(1, 1, 9, -2);
        x.attempt(0, 5);
        x.connect(0, 1, true);
        DUE.is("benign, so that 5 may begin twice", x.connect(0, 2, true), 2);
        x.advance(1);
        DUE.is("a second attempt", x.attempt(0, 5), 0);
        DUE.is("the first", x.describeAttempt(0), 2005);
        DUE.is("the second", x.describeAttempt(1), 3005);
        DUE.is("an answer", x.answer(0, 5), 0);
        DUE.is("the second is left", x.describeAttempt(0), 3005);
        DUE.is("the second is answered", x.answer(0, 5), 2);
        // the one that began first, though its deadline is later
        x.setTimeout(20);
        x.attempt(3, 6);
        x.connect(3, 1, true);
        x.connect(3, 2, true);
        x.setTimeout(2);
        x.attempt(3, 6);
        x.answer(3, 6);
        DUE.is("the later beginning is left", x.describeAttempt(0), 2306);
        DUE.is("a failure puts nothing into the seen set", x.advance(2), 1);
        DUE.is("seen since the second beginning alone", x.seenDestinations(3), 64);
    }

    private static void advanceOrder() {
        ScanDetector x = new ScanDetector();
        x.setTimeout(5);
        x.attempt(0, 0);
        x.setTimeout(2);
        x.attempt(1, 1);
        x.attempt(2, 2);
        DUE.is("no deadline yet", x.advance(1), 0);
        DUE.is("clock", x.clock(), 1);
        DUE.is("two deadlines", x.advance(1), 2);
        DUE.is("score 1", x.score(1), 3);
        DUE.is("score 2", x.score(2), 3);
        DUE.is("one is left", x.describeAttempt(0), 3000);
        DUE.is("long past the deadline", x.advance(50), 1);
        DUE.is("clock", x.clock(), 52);
        DUE.is("score 0", x.score(0), 3);
        DUE.is("none is left", x.advance(50), 0);
        // verdicts of one tick come in the order of beginning, those of two ticks in the order of time
        x.configure(1, 1, 1, -1);
        x.attempt(3, 0);
        x.attempt(1, 0);
        x.setTimeout(1);
        x.attempt(2, 0);
        DUE.is("three deadlines", x.advance(2), 3);
        DUE.is("the last verdict", x.describeVerdict(0), 11);
        DUE.is("the one before", x.describeVerdict(1), 31);
        DUE.is("the first verdict", x.describeVerdict(2), 21);
    }

    private static void advanceDiscards() {
        ScanDetector x = new ScanDetector();
        x.setCells(2);
        x.configure(3, 2, 6, -8);
        x.setTimeout(9);
        x.attempt(0, 0); // later deadline, same cell, begun first: discarded
        x.setTimeout(2);
        x.attempt(2, 1);
        x.attempt(4, 2); // blocks cell 0
        x.attempt(6, 3); // due in the same tick, discarded
        x.attempt(1, 4); // of the other cell, due
        x.setTimeout(4);
        x.attempt(3, 5); // of the other cell, due later
        DUE.is("three of them fail", x.advance(2), 3);
        DUE.is("cell 0 is blocked", x.isBlocked(0), 1);
        DUE.is("cell 0: score", x.score(0), 6);
        DUE.is("cell 1: score", x.score(1), 3);
        DUE.is("one is left", x.attemptCount(), 1);
        DUE.is("it is the other cell's", x.describeAttempt(0), 2305);
        DUE.is("discarded ones are not answered", x.answer(0, 0), -108);
        DUE.is("it fails, no other", x.advance(20), 1);
        DUE.is("both are blocked", x.isBlocked(1), 1);
        // a verdict by connect discards too
        x.setCells(2);
        x.attempt(0, 0);
        x.attempt(1, 0);
        x.attempt(2, 1);
        x.connect(4, 8, false);
        DUE.is("a scanner by connect", x.connect(6, 9, false), 1);
        DUE.is("connect: one is left", x.attemptCount(), 1);
        DUE.is("connect: the other cell's", x.describeAttempt(0), 4100);
    }

    private static void twelveAtOnce() {
        ScanDetector x = new ScanDetector();
        for (int i = 0; i < 12; i++) {
            x.attempt(i % 8, i);
        }
        DUE.is("twelve fail in one tick", x.advance(3), 12);
        DUE.is("twelve: score(3)", x.score(3), 6);
        DUE.is("twelve: score(4)", x.score(4), 3);
        DUE.is("twelve: none is left", x.attemptCount(), 0);
        x.setCells(1);
        for (int i = 0; i < 12; i++) {
            x.attempt(i % 8, i);
        }
        for (int d = 20; d < 23; d++) {
            x.connect(0, d, false);
        }
        DUE.is("twelve pend", x.attemptCount(), 12);
        DUE.is("a scanner while twelve pend", x.connect(7, 23, false), 1);
        DUE.is("twelve are discarded", x.attemptCount(), 0);
        DUE.is("discarded ones do not fail", x.advance(50), 0);
        DUE.is("the score stays", x.score(0), 12);
    }

    private static void advanceRanges() {
        ScanDetector x = new ScanDetector();
        x.attempt(0, 0);
        long before = x.digest();
        for (int t : new int[] {0, 51, -1, Integer.MIN_VALUE, Integer.MAX_VALUE}) {
            DUE.is("advance(" + t + ")", x.advance(t), -104);
            DUE.is("advance(" + t + ") changes nothing", x.digest(), before);
        }
        DUE.is("advance(1)", x.advance(1), 0);
        DUE.is("advance(50)", x.advance(50), 1);
        DUE.is("clock", x.clock(), 51);
    }

    private static void unblockCell() {
        ScanDetector x = withBlocked(5);
        x.connect(5, 9, true);
        x.attempt(5, 9);
        long before = x.digest();
        for (int c : new int[] {-1, 8, Integer.MIN_VALUE, Integer.MAX_VALUE}) {
            DUE.is("unblock(" + c + ")", x.unblock(c), -107);
        }
        DUE.is("unblock(4)", x.unblock(4), -111);
        DUE.is("errors of unblock change nothing", x.digest(), before);
        DUE.is("unblock(5)", x.unblock(5), 12);
        DUE.is("unblock: isBlocked", x.isBlocked(5), 0);
        DUE.is("unblock: score", x.score(5), 0);
        DUE.is("unblock: seen", x.seenDestinations(5), 0);
        DUE.is("unblock: blockedContacts", x.blockedContacts(5), 2);
        DUE.is("unblock: wronglyBlocked", x.wronglyBlocked(5), 1);
        DUE.is("unblock: verdictCount", x.verdictCount(), 1);
        DUE.is("unblock: describeVerdict", x.describeVerdict(0), 51);
        DUE.is("unblock again", x.unblock(5), -111);
        DUE.is("a first contact again", x.connect(5, 0, false), 0);
        x.setCells(4);
        DUE.is("a cell there is no more", x.unblock(5), -107);
    }
}
