/** The edges of promises 14 to 19: cellOf, score, isBlocked, seenDestinations, blockedContacts, wronglyBlocked. */
public final class CellsEdgesTest extends EdgeCases {
    public static void main(String[] args) {
        run(CellsEdgesTest.class, 14, 19);
    }

    /** One of the calls that ask about a cell. */
    private interface Asked {
        long of(ScanDetector x, int cell);
    }

    // ---- 14: "NO_SUCH_SOURCE if the source does not exist"

    static void promise14_cellOf_source0IsTaken() {
        for (int n = 1; n <= 8; n++) {
            is("cellOf(0) of " + n, withCells(n).cellOf(0), 0);
        }
    }

    static void promise14_cellOf_source7IsTaken() {
        int[] cells = {0, 1, 1, 3, 2, 1, 0, 7};
        for (int n = 1; n <= 8; n++) {
            is("cellOf(7) of " + n, withCells(n).cellOf(7), cells[n - 1]);
        }
    }

    static void promise14_cellOf_minus1IsRefused() {
        cellOfIsRefused(-1);
    }

    static void promise14_cellOf_8IsRefused() {
        cellOfIsRefused(8);
    }

    static void promise14_cellOf_farOutIsRefused() {
        for (int far : FAR) {
            cellOfIsRefused(far);
        }
    }

    static void promise14_cellOf_sourcesAreNotCells() {
        is("cellOf(7) of 1 cell", withCells(1).cellOf(7), 0);
        is("cellOf(8) of 1 cell", withCells(1).cellOf(8), NO_SUCH_SOURCE);
    }

    // "The cell of a source is the source number modulo the number of cells"

    static void promise14_cellOf_theLastBeforeTheWrapAround() {
        for (int n = 1; n <= 8; n++) {
            is("cellOf(" + (n - 1) + ") of " + n, withCells(n).cellOf(n - 1), n - 1);
        }
    }

    static void promise14_cellOf_theFirstAfterTheWrapAround() {
        for (int n = 1; n <= 7; n++) {
            is("cellOf(" + n + ") of " + n, withCells(n).cellOf(n), 0);
        }
    }

    static void promise14_cellOf_theSecondWrapAround() {
        is("cellOf(5) of 3", withCells(3).cellOf(5), 2);
        is("cellOf(6) of 3", withCells(3).cellOf(6), 0);
        is("cellOf(7) of 3", withCells(3).cellOf(7), 1);
    }

    static void promise14_cellOf_changesNothing() {
        changesNothing("cellOf(7)", EdgeCases::busy, x -> x.cellOf(7), 3);
    }

    // ---- 15: "Scores may be negative, but they are always greater than any error code."

    static void promise15_score_firstAndLastCellAreTaken() {
        firstAndLastAreTaken((x, c) -> x.score(c));
    }

    static void promise15_score_minus1IsRefused() {
        askIsRefused("score", -1, (x, c) -> x.score(c));
    }

    static void promise15_score_theCellBehindTheLastIsRefused() {
        behindTheLastIsRefused("score", (x, c) -> x.score(c));
    }

    static void promise15_score_farOutIsRefused() {
        farOutIsRefused("score", (x, c) -> x.score(c));
    }

    static void promise15_score_theLeast() {
        ScanDetector x = configured(1, 9, 60, -60);
        is("down to -59", walk(x, 0, 0, "----+++++++"), UNDECIDED);
        is("score(0)", x.score(0), -59);
    }

    static void promise15_score_theLargestOfAnOpenCell() {
        ScanDetector x = configured(9, 1, 60, -60);
        is("up to 59", walk(x, 0, 0, "++++-------"), UNDECIDED);
        is("score(0)", x.score(0), 59);
    }

    // "of a blocked cell the score with which it was blocked"

    static void promise15_score_theLargestOfABlockedCell() {
        ScanDetector x = configured(9, 1, 60, -60);
        is("up to 68", walk(x, 0, 0, "++++--------"), SCANNER);
        is("score(0)", x.score(0), 68);
    }

    static void promise15_score_ofABlockedCellStays() {
        ScanDetector x = withBlocked();
        x.connect(5, 9, true);
        x.connect(5, 9, false);
        x.attempt(5, 10);
        x.advance(50);
        is("score(5)", x.score(5), 12);
    }

    static void promise15_score_is0AfterBenign() {
        ScanDetector x = configured(1, 9, 60, -1);
        x.connect(0, 0, true);
        is("score(0)", x.score(0), 0);
    }

    static void promise15_score_isNotChangedByABeginningAttempt() {
        ScanDetector x = new ScanDetector();
        x.attempt(0, 0);
        is("score(0)", x.score(0), 0);
    }

    // ---- 16: "Returns 1 or 0"

    static void promise16_isBlocked_firstAndLastCellAreTaken() {
        firstAndLastAreTaken((x, c) -> x.isBlocked(c));
    }

    static void promise16_isBlocked_minus1IsRefused() {
        askIsRefused("isBlocked", -1, (x, c) -> x.isBlocked(c));
    }

    static void promise16_isBlocked_theCellBehindTheLastIsRefused() {
        behindTheLastIsRefused("isBlocked", (x, c) -> x.isBlocked(c));
    }

    static void promise16_isBlocked_farOutIsRefused() {
        farOutIsRefused("isBlocked", (x, c) -> x.isBlocked(c));
    }

    static void promise16_isBlocked_oneBelowTheUpperThreshold() {
        ScanDetector x = configured(1, 1, 2, -60);
        x.connect(7, 0, false);
        is("isBlocked(7)", x.isBlocked(7), 0);
    }

    static void promise16_isBlocked_atTheUpperThreshold() {
        ScanDetector x = configured(1, 1, 2, -60);
        walk(x, 7, 0, "--");
        is("isBlocked(7)", x.isBlocked(7), 1);
        is("isBlocked(6)", x.isBlocked(6), 0);
        is("isBlocked(0)", x.isBlocked(0), 0);
    }

    static void promise16_isBlocked_allCells() {
        ScanDetector x = configured(1, 1, 1, -1);
        for (int s = 0; s < 8; s++) {
            x.connect(s, 0, false);
        }
        for (int c = 0; c < 8; c++) {
            is("isBlocked(" + c + ")", x.isBlocked(c), 1);
        }
    }

    static void promise16_isBlocked_notAfterBenign() {
        ScanDetector x = configured(1, 1, 1, -1);
        x.connect(0, 0, true);
        is("isBlocked(0)", x.isBlocked(0), 0);
    }

    // ---- 17: "Returns a bit mask (bit d for destination d, 32 bits in a long)"

    static void promise17_seenDestinations_firstAndLastCellAreTaken() {
        firstAndLastAreTaken((x, c) -> x.seenDestinations(c));
    }

    static void promise17_seenDestinations_minus1IsRefused() {
        askIsRefused("seenDestinations", -1, (x, c) -> x.seenDestinations(c));
    }

    static void promise17_seenDestinations_theCellBehindTheLastIsRefused() {
        behindTheLastIsRefused("seenDestinations", (x, c) -> x.seenDestinations(c));
    }

    static void promise17_seenDestinations_farOutIsRefused() {
        farOutIsRefused("seenDestinations", (x, c) -> x.seenDestinations(c));
    }

    static void promise17_seenDestinations_none() {
        is("seenDestinations(0)", new ScanDetector().seenDestinations(0), 0);
    }

    static void promise17_seenDestinations_bit0() {
        ScanDetector x = new ScanDetector();
        x.connect(0, 0, true);
        is("seenDestinations(0)", x.seenDestinations(0), 1);
    }

    /** As an int the mask would be negative. */
    static void promise17_seenDestinations_bit31() {
        ScanDetector x = new ScanDetector();
        x.connect(0, 31, true);
        is("seenDestinations(0)", x.seenDestinations(0), 2147483648L);
    }

    static void promise17_seenDestinations_allThirtyTwo() {
        ScanDetector x = configured(1, 1, 60, -60);
        walk(x, 0, 0, "--------------------------------");
        is("seenDestinations(0)", x.seenDestinations(0), 4294967295L);
        is("seenDestinations(1)", x.seenDestinations(1), 0);
    }

    static void promise17_seenDestinations_noneAfterBenign() {
        ScanDetector x = configured(1, 1, 60, -32);
        is("the 32nd", walk(x, 0, 0, "++++++++++++++++++++++++++++++++"), BENIGN);
        is("seenDestinations(0)", x.seenDestinations(0), 0);
    }

    static void promise17_seenDestinations_keptOfABlockedCell() {
        is("seenDestinations(5)", withBlocked().seenDestinations(5), 15);
    }

    static void promise17_seenDestinations_keptWhenAnAttemptEnds() {
        ScanDetector x = new ScanDetector();
        x.attempt(0, 30);
        x.attempt(0, 31);
        x.answer(0, 30);
        x.advance(3);
        is("seenDestinations(0)", x.seenDestinations(0), 3221225472L);
    }

    static void promise17_seenDestinations_keptWhenAttemptsAreDiscarded() {
        ScanDetector x = new ScanDetector();
        x.attempt(0, 31);
        walk(x, 0, 0, "----");
        is("seenDestinations(0)", x.seenDestinations(0), 2147483663L);
    }

    // ---- 18: "Returns how many connect and attempt calls a blocked cell has stopped."

    static void promise18_blockedContacts_firstAndLastCellAreTaken() {
        firstAndLastAreTaken((x, c) -> x.blockedContacts(c));
    }

    static void promise18_blockedContacts_minus1IsRefused() {
        askIsRefused("blockedContacts", -1, (x, c) -> x.blockedContacts(c));
    }

    static void promise18_blockedContacts_theCellBehindTheLastIsRefused() {
        behindTheLastIsRefused("blockedContacts", (x, c) -> x.blockedContacts(c));
    }

    static void promise18_blockedContacts_farOutIsRefused() {
        farOutIsRefused("blockedContacts", (x, c) -> x.blockedContacts(c));
    }

    static void promise18_blockedContacts_notTheOneThatBlocked() {
        is("blockedContacts(5)", withBlocked().blockedContacts(5), 0);
    }

    static void promise18_blockedContacts_notADiscardedAttempt() {
        ScanDetector x = new ScanDetector();
        x.attempt(0, 0);
        walk(x, 0, 1, "----");
        x.advance(50);
        is("blockedContacts(0)", x.blockedContacts(0), 0);
    }

    static void promise18_blockedContacts_notARefusedCall() {
        ScanDetector x = withBlocked();
        x.connect(5, 32, true);
        x.connect(5, -1, false);
        x.attempt(5, 32);
        x.attempt(5, -1);
        x.connect(13, 0, true);
        x.attempt(-3, 0);
        is("blockedContacts(5)", x.blockedContacts(5), 0);
    }

    static void promise18_blockedContacts_notAnAnswer() {
        ScanDetector x = withBlocked();
        x.answer(5, 0);
        is("blockedContacts(5)", x.blockedContacts(5), 0);
    }

    static void promise18_blockedContacts_notARepeatedOne() {
        ScanDetector x = new ScanDetector();
        x.connect(0, 0, true);
        x.connect(0, 0, true);
        x.attempt(0, 0);
        is("blockedContacts(0)", x.blockedContacts(0), 0);
    }

    static void promise18_blockedContacts_ofEachKind() {
        ScanDetector x = withBlocked();
        x.connect(5, 9, true);
        is("after a success", x.blockedContacts(5), 1);
        x.connect(5, 9, false);
        is("after a failure", x.blockedContacts(5), 2);
        x.attempt(5, 9);
        is("after an attempt", x.blockedContacts(5), 3);
        is("blockedContacts(4)", x.blockedContacts(4), 0);
    }

    static void promise18_blockedContacts_asManyAsCallsAllow() {
        ScanDetector x = new ScanDetector();
        x.configure(1, 1, 1, -1);
        x.connect(0, 0, false);
        for (int i = 0; i < 509; i++) {
            x.connect(0, i % 32, false);
        }
        is("call 512: blockedContacts(0)", x.blockedContacts(0), 509);
    }

    static void promise18_blockedContacts_goOnAfterUnblock() {
        ScanDetector x = withBlocked();
        x.connect(5, 9, true);
        x.unblock(5);
        is("kept", x.blockedContacts(5), 1);
        walk(x, 5, 0, "----");
        x.connect(5, 9, false);
        is("and added to", x.blockedContacts(5), 2);
    }

    // ---- 19: "Returns how many connect calls that would have succeeded a blocked cell has stopped."

    static void promise19_wronglyBlocked_firstAndLastCellAreTaken() {
        firstAndLastAreTaken((x, c) -> x.wronglyBlocked(c));
    }

    static void promise19_wronglyBlocked_minus1IsRefused() {
        askIsRefused("wronglyBlocked", -1, (x, c) -> x.wronglyBlocked(c));
    }

    static void promise19_wronglyBlocked_theCellBehindTheLastIsRefused() {
        behindTheLastIsRefused("wronglyBlocked", (x, c) -> x.wronglyBlocked(c));
    }

    static void promise19_wronglyBlocked_farOutIsRefused() {
        farOutIsRefused("wronglyBlocked", (x, c) -> x.wronglyBlocked(c));
    }

    static void promise19_wronglyBlocked_ofEachKind() {
        ScanDetector x = withBlocked();
        x.connect(5, 9, false);
        is("after a failure", x.wronglyBlocked(5), 0);
        x.attempt(5, 9);
        is("after an attempt", x.wronglyBlocked(5), 0);
        x.connect(5, 9, true);
        is("after a success", x.wronglyBlocked(5), 1);
        x.connect(5, 0, true);
        is("after a seen destination", x.wronglyBlocked(5), 2);
        is("wronglyBlocked(6)", x.wronglyBlocked(6), 0);
    }

    static void promise19_wronglyBlocked_notARefusedCall() {
        ScanDetector x = withBlocked();
        x.connect(5, 32, true);
        x.connect(5, -1, true);
        x.connect(13, 0, true);
        is("wronglyBlocked(5)", x.wronglyBlocked(5), 0);
    }

    static void promise19_wronglyBlocked_asManyAsCallsAllow() {
        ScanDetector x = new ScanDetector();
        x.configure(1, 1, 1, -1);
        x.connect(0, 0, false);
        for (int i = 0; i < 509; i++) {
            x.connect(0, i % 32, true);
        }
        is("call 512: wronglyBlocked(0)", x.wronglyBlocked(0), 509);
    }

    static void promise19_wronglyBlocked_goesOnAfterUnblock() {
        ScanDetector x = withBlocked();
        x.connect(5, 9, true);
        x.unblock(5);
        is("kept", x.wronglyBlocked(5), 1);
        x.connect(5, 9, true);
        is("not a contact that is made", x.wronglyBlocked(5), 1);
        walk(x, 5, 10, "-----");
        x.connect(5, 20, true);
        is("and added to", x.wronglyBlocked(5), 2);
    }

    // ---- helpers

    private static ScanDetector withCells(int n) {
        ScanDetector x = new ScanDetector();
        x.setCells(n);
        return x;
    }

    private static void cellOfIsRefused(int source) {
        changesNothing("cellOf(" + source + ")", EdgeCases::busy, x -> x.cellOf(source), NO_SUCH_SOURCE);
    }

    private static void firstAndLastAreTaken(Asked asked) {
        for (int n = 1; n <= 8; n++) {
            is("of cell 0 of " + n, asked.of(withCells(n), 0), 0);
            is("of cell " + (n - 1) + " of " + n, asked.of(withCells(n), n - 1), 0);
        }
    }

    private static void behindTheLastIsRefused(String name, Asked asked) {
        for (int n = 1; n <= 8; n++) {
            is(name + "(" + n + ") of " + n, asked.of(withCells(n), n), NO_SUCH_CELL);
        }
        askIsRefused(name, 4, asked);
        askIsRefused(name, 7, asked);
        askIsRefused(name, 8, asked);
    }

    private static void farOutIsRefused(String name, Asked asked) {
        for (int far : FAR) {
            askIsRefused(name, far, asked);
        }
    }

    /** On an object of four cells. */
    private static void askIsRefused(String name, int cell, Asked asked) {
        changesNothing(name + "(" + cell + ")", EdgeCases::busy, x -> asked.of(x, cell), NO_SUCH_CELL);
    }
}
