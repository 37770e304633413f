/** The edges of promises 8 and 9: advance, unblock. */
public final class TimeEdgesTest extends EdgeCases {
    public static void main(String[] args) {
        run(TimeEdgesTest.class, 8, 9);
    }

    // ---- 8: "ticks: 1 to 50"

    static void promise8_advance_1IsTaken() {
        ScanDetector x = new ScanDetector();
        is("advance(1)", x.advance(1), 0);
        is("clock()", x.clock(), 1);
    }

    static void promise8_advance_50IsTaken() {
        ScanDetector x = new ScanDetector();
        is("advance(50)", x.advance(50), 0);
        is("clock()", x.clock(), 50);
    }

    static void promise8_advance_0IsRefused() {
        advanceIsRefused(0);
    }

    static void promise8_advance_51IsRefused() {
        advanceIsRefused(51);
    }

    static void promise8_advance_minus1IsRefused() {
        advanceIsRefused(-1);
    }

    static void promise8_advance_farOutIsRefused() {
        for (int far : FAR) {
            advanceIsRefused(far);
        }
    }

    // "An attempt that begins at time t has the deadline t + timeout. A pending attempt whose deadline has been reached fails"

    static void promise8_advance_oneTickBeforeTheDeadlineNoneFails() {
        ScanDetector x = new ScanDetector();
        x.attempt(1, 5);
        is("advance(2)", x.advance(2), 0);
        is("attemptCount()", x.attemptCount(), 1);
        is("score(1)", x.score(1), 0);
    }

    static void promise8_advance_atTheDeadlineItFails() {
        ScanDetector x = new ScanDetector();
        x.attempt(1, 5);
        is("advance(3)", x.advance(3), 1);
        is("attemptCount()", x.attemptCount(), 0);
        is("score(1)", x.score(1), 3);
    }

    static void promise8_advance_beyondTheDeadlineItFailsOnce() {
        ScanDetector x = new ScanDetector();
        x.attempt(1, 5);
        is("advance(50)", x.advance(50), 1);
        is("advance(50)", x.advance(50), 0);
        is("score(1)", x.score(1), 3);
    }

    static void promise8_advance_theDeadlineCountsFromTheBeginning() {
        ScanDetector x = new ScanDetector();
        x.advance(50);
        x.advance(7);
        x.attempt(1, 5);
        is("advance(2)", x.advance(2), 0);
        is("advance(1)", x.advance(1), 1);
        is("clock()", x.clock(), 60);
    }

    static void promise8_advance_theShortestTimeout() {
        ScanDetector x = new ScanDetector();
        x.setTimeout(1);
        x.attempt(1, 5);
        is("advance(1)", x.advance(1), 1);
    }

    static void promise8_advance_theLongestTimeout() {
        ScanDetector x = new ScanDetector();
        x.setTimeout(20);
        x.attempt(1, 5);
        is("advance(19)", x.advance(19), 0);
        is("advance(1)", x.advance(1), 1);
    }

    // "Returns how many attempts failed"

    static void promise8_advance_noneIsPending() {
        is("advance(50)", new ScanDetector().advance(50), 0);
    }

    static void promise8_advance_twelveFailInOneTick() {
        ScanDetector x = configured(1, 1, 60, -60);
        for (int i = 0; i < 12; i++) {
            x.attempt(0, i);
        }
        is("advance(2)", x.advance(2), 0);
        is("advance(1)", x.advance(1), 12);
        is("score(0)", x.score(0), 12);
        is("attemptCount()", x.attemptCount(), 0);
    }

    static void promise8_advance_twelveFailInTwelveTicksOfOneCall() {
        ScanDetector x = configured(1, 1, 60, -60);
        for (int i = 0; i < 12; i++) {
            x.setTimeout(20 - i);
            x.attempt(i % 8, i);
        }
        is("advance(50)", x.advance(50), 12);
        is("attemptCount()", x.attemptCount(), 0);
    }

    // "fail one after another, in the order in which they began"

    static void promise8_advance_inOneTickInTheOrderOfBeginning() {
        ScanDetector x = configured(1, 1, 1, -1);
        x.attempt(6, 0);
        x.attempt(2, 0);
        x.attempt(4, 0);
        is("advance(3)", x.advance(3), 3);
        is("describeVerdict(2)", x.describeVerdict(2), 61);
        is("describeVerdict(1)", x.describeVerdict(1), 21);
        is("describeVerdict(0)", x.describeVerdict(0), 41);
    }

    static void promise8_advance_inOneTickThoughTheTimeoutsDiffer() {
        ScanDetector x = configured(1, 1, 1, -1);
        x.setTimeout(5);
        x.attempt(6, 0);
        x.advance(2);
        x.setTimeout(3);
        x.attempt(2, 0);
        is("advance(3)", x.advance(3), 2);
        is("describeVerdict(1)", x.describeVerdict(1), 61);
        is("describeVerdict(0)", x.describeVerdict(0), 21);
    }

    static void promise8_advance_overTicksInTheOrderOfTime() {
        ScanDetector x = configured(1, 1, 1, -1);
        x.setTimeout(3);
        x.attempt(6, 0);
        x.setTimeout(2);
        x.attempt(2, 0);
        is("advance(3)", x.advance(3), 2);
        is("describeVerdict(1)", x.describeVerdict(1), 21);
        is("describeVerdict(0)", x.describeVerdict(0), 61);
    }

    // "An attempt that is discarded in between does not fail."

    static void promise8_advance_discardedInTheSameTick() {
        ScanDetector x = configured(3, 2, 6, -8);
        for (int i = 0; i < 12; i++) {
            x.attempt(0, i);
        }
        is("advance(3)", x.advance(3), 2);
        is("score(0)", x.score(0), 6);
        is("attemptCount()", x.attemptCount(), 0);
        is("verdictCount()", x.verdictCount(), 1);
    }

    static void promise8_advance_discardedWithALaterDeadline() {
        ScanDetector x = configured(3, 2, 3, -8);
        x.attempt(0, 0);
        x.setTimeout(9);
        x.attempt(0, 1);
        is("advance(50)", x.advance(50), 1);
        is("score(0)", x.score(0), 3);
        is("blockedContacts(0)", x.blockedContacts(0), 0);
    }

    /** The discarded one stands before the others: none of these may be passed over. */
    static void promise8_advance_discardedThatBeganEarlier() {
        ScanDetector x = configured(3, 2, 3, -8);
        x.setTimeout(9);
        x.attempt(0, 0);
        x.setTimeout(2);
        x.attempt(0, 1);
        x.attempt(1, 2);
        x.attempt(2, 3);
        is("advance(2)", x.advance(2), 3);
        is("isBlocked(2)", x.isBlocked(2), 1);
        is("attemptCount()", x.attemptCount(), 0);
    }

    static void promise8_advance_attemptsOfOtherCellsStillFail() {
        ScanDetector x = configured(3, 2, 3, -8);
        x.setCells(2);
        x.attempt(0, 0);
        x.attempt(2, 1);
        x.attempt(1, 2);
        x.attempt(4, 3);
        is("advance(3)", x.advance(3), 2);
        is("score(0)", x.score(0), 3);
        is("score(1)", x.score(1), 3);
    }

    static void promise8_advance_discardedStaysSoAfterUnblock() {
        ScanDetector x = configured(3, 2, 3, -8);
        x.attempt(0, 0);
        x.setTimeout(9);
        x.attempt(0, 1);
        x.advance(3);
        x.unblock(0);
        is("advance(50)", x.advance(50), 0);
        is("score(0)", x.score(0), 0);
    }

    // "this changes the score as any failure, and may lead to a verdict"

    static void promise8_advance_oneBelowTheUpperThresholdIsNoVerdict() {
        ScanDetector x = configured(3, 2, 4, -8);
        x.attempt(0, 0);
        x.advance(3);
        is("isBlocked(0)", x.isBlocked(0), 0);
        is("verdictCount()", x.verdictCount(), 0);
    }

    static void promise8_advance_atTheUpperThresholdIsScanner() {
        ScanDetector x = configured(3, 2, 3, -8);
        x.attempt(7, 0);
        x.advance(3);
        is("isBlocked(7)", x.isBlocked(7), 1);
        is("score(7)", x.score(7), 3);
        is("describeVerdict(0)", x.describeVerdict(0), 71);
    }

    static void promise8_advance_aFailurePutsNothingIntoTheSeenSet() {
        ScanDetector x = new ScanDetector();
        x.attempt(0, 5);
        walk(x, 0, 10, "++++"); // benign: 5 is forgotten, and still pends
        is("advance(3)", x.advance(3), 1);
        is("score(0)", x.score(0), 3);
        is("seenDestinations(0)", x.seenDestinations(0), 0);
    }

    static void promise8_advance_changesOnlyTheClockWhereNothingIsDue() {
        changesOnly("advance(1)", withBlocked(), x -> x.advance(1), 0, "clock()", "describeAttempt(0)", "digest()");
    }

    // ---- 9: "NO_SUCH_CELL if the cell does not exist (checked first); NOT_BLOCKED if it is not blocked"

    static void promise9_unblock_cell0IsTaken() {
        ScanDetector x = new ScanDetector();
        walk(x, 0, 0, "----");
        is("unblock(0)", x.unblock(0), 12);
    }

    static void promise9_unblock_cell7IsTaken() {
        ScanDetector x = new ScanDetector();
        walk(x, 7, 0, "----");
        is("unblock(7)", x.unblock(7), 12);
    }

    static void promise9_unblock_theLastOfFewerCellsIsTaken() {
        ScanDetector x = new ScanDetector();
        x.setCells(3);
        walk(x, 5, 0, "----");
        is("unblock(2)", x.unblock(2), 12);
    }

    static void promise9_unblock_minus1IsRefused() {
        unblockIsRefused(-1, NO_SUCH_CELL);
    }

    static void promise9_unblock_theCellBehindTheLastIsRefused() {
        unblockIsRefused(4, NO_SUCH_CELL);
        changesNothing("unblock(8)", EdgeCases::withBlocked, x -> x.unblock(8), NO_SUCH_CELL);
    }

    static void promise9_unblock_aCellThatWasBlockedAndIsLeftOutIsRefused() {
        ScanDetector x = withBlocked();
        x.setCells(5);
        is("unblock(5)", x.unblock(5), NO_SUCH_CELL);
        x.setCells(6);
        is("unblock(5)", x.unblock(5), NOT_BLOCKED);
    }

    static void promise9_unblock_farOutIsRefused() {
        for (int far : FAR) {
            unblockIsRefused(far, NO_SUCH_CELL);
        }
    }

    static void promise9_unblock_ofANewCellIsRefused() {
        changesNothing("unblock(0)", ScanDetector::new, x -> x.unblock(0), NOT_BLOCKED);
        changesNothing("unblock(7)", ScanDetector::new, x -> x.unblock(7), NOT_BLOCKED);
    }

    static void promise9_unblock_ofACellInUseIsRefused() {
        for (int c : new int[] {0, 2, 3}) {
            unblockIsRefused(c, NOT_BLOCKED);
        }
    }

    static void promise9_unblock_oneBelowTheUpperThresholdIsRefused() {
        ScanDetector x = configured(1, 1, 2, -2);
        x.connect(0, 0, false);
        is("unblock(0)", x.unblock(0), NOT_BLOCKED);
        is("score(0)", x.score(0), 1);
    }

    static void promise9_unblock_twiceIsRefused() {
        ScanDetector x = withBlocked();
        is("unblock(5)", x.unblock(5), 12);
        is("unblock(5)", x.unblock(5), NOT_BLOCKED);
    }

    // "Returns the score that the cell had"

    static void promise9_unblock_answersTheLeastScore() {
        ScanDetector x = configured(1, 1, 1, -60);
        x.connect(0, 0, false);
        is("unblock(0)", x.unblock(0), 1);
    }

    static void promise9_unblock_answersTheLargestScore() {
        ScanDetector x = configured(9, 1, 60, -60);
        is("up to 59, then 68", walk(x, 0, 0, "++++--------"), SCANNER);
        is("unblock(0)", x.unblock(0), 68);
    }

    // "its score becomes 0 and its set of seen destinations becomes empty. Its counters and the verdicts are kept."

    static void promise9_unblock_changesOnlyScoreSeenAndBlocked() {
        ScanDetector x = withBlocked();
        x.connect(5, 9, true);
        x.attempt(5, 9);
        changesOnly("unblock(5)", x, y -> y.unblock(5), 12, "score(5)", "seenDestinations(5)", "isBlocked(5)", "digest()");
        is("score(5)", x.score(5), 0);
        is("seenDestinations(5)", x.seenDestinations(5), 0);
        is("isBlocked(5)", x.isBlocked(5), 0);
        is("blockedContacts(5)", x.blockedContacts(5), 2);
        is("wronglyBlocked(5)", x.wronglyBlocked(5), 1);
        is("verdictCount()", x.verdictCount(), 1);
    }

    static void promise9_unblock_letsTheCellBeBlockedAgain() {
        ScanDetector x = withBlocked();
        x.unblock(5);
        is("the same contacts again", walk(x, 5, 0, "----"), SCANNER);
        is("verdictCount()", x.verdictCount(), 2);
        is("unblock(5)", x.unblock(5), 12);
    }

    static void promise9_unblock_leavesAnotherBlockedCell() {
        ScanDetector x = withBlocked();
        walk(x, 4, 0, "----");
        x.unblock(5);
        is("isBlocked(4)", x.isBlocked(4), 1);
        is("score(4)", x.score(4), 12);
    }

    // ---- helpers

    private static void advanceIsRefused(int ticks) {
        changesNothing("advance(" + ticks + ")", EdgeCases::busy, x -> x.advance(ticks), OUT_OF_RANGE);
    }

    private static void unblockIsRefused(int cell, int code) {
        changesNothing("unblock(" + cell + ")", EdgeCases::busy, x -> x.unblock(cell), code);
    }
}
