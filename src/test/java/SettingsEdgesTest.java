/** The edges of promises 1 to 4: a new object, configure, setCells, setTimeout. */
public final class SettingsEdgesTest extends EdgeCases {
    public static void main(String[] args) {
        run(SettingsEdgesTest.class, 1, 4);
    }

    // ---- 1: "Creates a detector with 8 cells, step up 3, step down 2, upper threshold 12, lower threshold -8 and timeout 3."

    static void promise1_newObject_has8Cells() {
        ScanDetector x = new ScanDetector();
        is("score(7)", x.score(7), 0);
        is("score(8)", x.score(8), NO_SUCH_CELL);
        is("setCells(1)", x.setCells(1), 8);
    }

    static void promise1_newObject_stepUpIs3() {
        ScanDetector x = new ScanDetector();
        x.connect(0, 0, false);
        is("score(0)", x.score(0), 3);
    }

    static void promise1_newObject_stepDownIs2() {
        ScanDetector x = new ScanDetector();
        x.connect(0, 0, true);
        is("score(0)", x.score(0), -2);
    }

    static void promise1_newObject_score11IsUnderTheUpperThreshold() {
        ScanDetector x = new ScanDetector();
        is("the last of ---++--", walk(x, 0, 0, "---++--"), UNDECIDED);
        is("score(0)", x.score(0), 11);
    }

    static void promise1_newObject_score12IsAtTheUpperThreshold() {
        ScanDetector x = new ScanDetector();
        is("the last of ----", walk(x, 0, 0, "----"), SCANNER);
        is("score(0)", x.score(0), 12);
    }

    static void promise1_newObject_scoreMinus7IsOverTheLowerThreshold() {
        ScanDetector x = new ScanDetector();
        is("the last of +++-++", walk(x, 0, 0, "+++-++"), UNDECIDED);
        is("score(0)", x.score(0), -7);
    }

    static void promise1_newObject_scoreMinus8IsAtTheLowerThreshold() {
        ScanDetector x = new ScanDetector();
        is("the last of ++++", walk(x, 0, 0, "++++"), BENIGN);
    }

    static void promise1_newObject_timeoutIs3() {
        ScanDetector x = new ScanDetector();
        x.attempt(0, 0);
        is("advance(2)", x.advance(2), 0);
        is("advance(1)", x.advance(1), 1);
        is("setTimeout(4)", x.setTimeout(4), 3);
    }

    // "At the start, the score of a cell is 0, no destination is seen, and the cell is not blocked."

    static void promise1_newObject_cellsAreEmpty() {
        ScanDetector x = new ScanDetector();
        for (int c = 0; c < 8; c++) {
            emptyCell(x, c);
        }
    }

    static void promise1_newObject_hasNoAttempts() {
        ScanDetector x = new ScanDetector();
        is("attemptCount()", x.attemptCount(), 0);
        is("describeAttempt(0)", x.describeAttempt(0), NO_SUCH_ATTEMPT);
        is("advance(50)", x.advance(50), 0);
    }

    static void promise1_newObject_hasNoVerdicts() {
        ScanDetector x = new ScanDetector();
        is("verdictCount()", x.verdictCount(), 0);
        is("describeVerdict(0)", x.describeVerdict(0), NO_SUCH_VERDICT);
    }

    static void promise1_newObject_clockIs0() {
        is("clock()", new ScanDetector().clock(), 0);
    }

    static void promise1_newObject_inputIsEmpty() {
        ScanDetector x = new ScanDetector();
        is("firstError()", x.firstError(), 0);
        is("runInput()", x.runInput(), INVALID_INPUT);
        is("clearInput()", x.clearInput(), 0);
    }

    static void promise1_newObject_sharesNothingWithAnother() {
        ScanDetector x = new ScanDetector();
        busy();
        withTwelve();
        same("a new object beside others", Shown.fromNowOn(x), Shown.fromNowOn(new ScanDetector()));
    }

    // "An object is used for at most 512 calls after it has been made."

    static void promise1_newObject_the512thCallIsAnswered() {
        ScanDetector x = new ScanDetector();
        int failed = 0;
        for (int i = 0; i < 170; i++) {
            x.attempt(i % 8, i / 8);
            failed += x.advance(50);
            x.unblock(i % 8);
        }
        is("clock()", x.clock(), 8500);
        is("call 512: verdictCount()", x.verdictCount(), 40);
        is("all failed", failed, 170);
    }

    // ---- 2: "up: step up, 1 to 9", "down: step down, 1 to 9"

    static void promise2_configure_up1IsTaken() {
        ScanDetector x = configured(1, 5, 20, -20);
        x.connect(0, 0, false);
        is("score(0)", x.score(0), 1);
    }

    static void promise2_configure_up9IsTaken() {
        ScanDetector x = configured(9, 5, 20, -20);
        x.connect(0, 0, false);
        is("score(0)", x.score(0), 9);
    }

    static void promise2_configure_up0IsRefused() {
        configureIsRefused(0, 5, 20, -20);
    }

    static void promise2_configure_up10IsRefused() {
        configureIsRefused(10, 5, 20, -20);
    }

    static void promise2_configure_upMinus1IsRefused() {
        configureIsRefused(-1, 5, 20, -20);
    }

    static void promise2_configure_upFarOutIsRefused() {
        for (int far : FAR) {
            configureIsRefused(far, 5, 20, -20);
        }
    }

    static void promise2_configure_down1IsTaken() {
        ScanDetector x = configured(5, 1, 20, -20);
        x.connect(0, 0, true);
        is("score(0)", x.score(0), -1);
    }

    static void promise2_configure_down9IsTaken() {
        ScanDetector x = configured(5, 9, 20, -20);
        x.connect(0, 0, true);
        is("score(0)", x.score(0), -9);
    }

    static void promise2_configure_down0IsRefused() {
        configureIsRefused(5, 0, 20, -20);
    }

    static void promise2_configure_down10IsRefused() {
        configureIsRefused(5, 10, 20, -20);
    }

    static void promise2_configure_downMinus1IsRefused() {
        configureIsRefused(5, -1, 20, -20);
    }

    static void promise2_configure_downFarOutIsRefused() {
        for (int far : FAR) {
            configureIsRefused(5, far, 20, -20);
        }
    }

    // "upper: upper threshold, 1 to 60", "lower: lower threshold, -60 to -1"

    static void promise2_configure_upper1IsTaken() {
        ScanDetector x = configured(1, 1, 1, -20);
        is("connect(0, 0, false)", x.connect(0, 0, false), SCANNER);
        is("score(0)", x.score(0), 1);
    }

    static void promise2_configure_upper60IsTaken() {
        ScanDetector x = configured(9, 1, 60, -60);
        is("up to 59", walk(x, 0, 0, "++++-------"), UNDECIDED);
        is("score(0)", x.score(0), 59);
        is("up to 60", walk(x, 1, 0, "+++-------"), SCANNER);
        is("score(1)", x.score(1), 60);
    }

    static void promise2_configure_upper0IsRefused() {
        configureIsRefused(5, 5, 0, -20);
    }

    static void promise2_configure_upper61IsRefused() {
        configureIsRefused(5, 5, 61, -20);
    }

    static void promise2_configure_upperMinus1IsRefused() {
        configureIsRefused(5, 5, -1, -20);
    }

    static void promise2_configure_upperFarOutIsRefused() {
        for (int far : FAR) {
            configureIsRefused(5, 5, far, -20);
        }
    }

    static void promise2_configure_lowerMinus1IsTaken() {
        ScanDetector x = configured(1, 1, 20, -1);
        is("connect(0, 0, true)", x.connect(0, 0, true), BENIGN);
        is("connect(1, 0, false)", x.connect(1, 0, false), UNDECIDED);
        is("down to 0", x.connect(1, 1, true), UNDECIDED);
        is("down to -1", x.connect(1, 2, true), BENIGN);
    }

    static void promise2_configure_lowerMinus60IsTaken() {
        ScanDetector x = configured(1, 9, 60, -60);
        is("down to -59", walk(x, 0, 0, "----+++++++"), UNDECIDED);
        is("score(0)", x.score(0), -59);
        is("down to -60", walk(x, 1, 0, "---+++++++"), BENIGN);
    }

    static void promise2_configure_lower0IsRefused() {
        configureIsRefused(5, 5, 20, 0);
    }

    static void promise2_configure_lowerMinus61IsRefused() {
        configureIsRefused(5, 5, 20, -61);
    }

    static void promise2_configure_lower1IsRefused() {
        configureIsRefused(5, 5, 20, 1);
    }

    static void promise2_configure_lowerFarOutIsRefused() {
        for (int far : FAR) {
            configureIsRefused(5, 5, 20, far);
        }
    }

    static void promise2_configure_allLeastAreTaken() {
        ScanDetector x = configured(1, 1, 1, -60);
        is("connect(0, 0, false)", x.connect(0, 0, false), SCANNER);
    }

    static void promise2_configure_allLargestAreTaken() {
        ScanDetector x = configured(9, 9, 60, -1);
        is("connect(0, 0, false)", x.connect(0, 0, false), UNDECIDED);
        is("connect(1, 0, true)", x.connect(1, 0, true), BENIGN);
    }

    static void promise2_configure_allWrongAreRefused() {
        configureIsRefused(0, 10, 61, 0);
    }

    // "Returns the number of cells"

    static void promise2_configure_answers1Cell() {
        ScanDetector x = new ScanDetector();
        x.setCells(1);
        is("configure(1, 1, 1, -1)", x.configure(1, 1, 1, -1), 1);
    }

    static void promise2_configure_answers8Cells() {
        is("configure(1, 1, 1, -1)", new ScanDetector().configure(1, 1, 1, -1), 8);
    }

    // "All cells, counters, pending attempts and verdicts are reset, and the clock is 0 again."

    static void promise2_configure_resetsEveryCell() {
        ScanDetector x = busyThenConfigured();
        for (int c = 0; c < 4; c++) {
            emptyCell(x, c);
        }
    }

    static void promise2_configure_resetsAttempts() {
        noAttempts(busyThenConfigured());
    }

    static void promise2_configure_resetsTwelveAttempts() {
        ScanDetector x = withTwelve();
        x.configure(3, 2, 12, -8);
        noAttempts(x);
        roomForTwelve(x);
    }

    static void promise2_configure_resetsVerdicts() {
        noVerdicts(busyThenConfigured());
    }

    static void promise2_configure_resetsTheClock() {
        is("clock()", busyThenConfigured().clock(), 0);
    }

    // "The number of cells, the timeout and the input buffer are kept."

    static void promise2_configure_keepsTheNumberOfCells() {
        ScanDetector x = busyThenConfigured();
        is("score(3)", x.score(3), 0);
        is("score(4)", x.score(4), NO_SUCH_CELL);
        is("setCells(8)", x.setCells(8), 4);
    }

    static void promise2_configure_keepsTheTimeout() {
        ScanDetector x = busyThenConfigured();
        x.attempt(0, 0);
        is("describeAttempt(0)", x.describeAttempt(0), 9000);
        is("setTimeout(1)", x.setTimeout(1), 9);
    }

    static void promise2_configure_keepsTheInput() {
        ScanDetector x = busyThenConfigured();
        is("firstError()", x.firstError(), 9);
        type(x, "5+");
        is("runInput()", x.runInput(), 2);
    }

    static void promise2_configure_keepsAFullInput() {
        ScanDetector x = withFullInput();
        x.configure(1, 1, 60, -60);
        is("append('0')", x.append('0'), BUFFER_FULL);
        is("runInput()", x.runInput(), 10);
    }

    static void promise2_configure_keepsAnEmptyInput() {
        is("clearInput()", configured(1, 1, 60, -60).clearInput(), 0);
    }

    static void promise2_configure_leavesAsANewObjectWouldBe() {
        ScanDetector x = new ScanDetector();
        walk(x, 0, 0, "----");
        x.attempt(1, 1);
        x.advance(2);
        x.configure(3, 2, 12, -8);
        same("configure as at the start", Shown.fromNowOn(x), Shown.fromNowOn(new ScanDetector()));
    }

    // ---- 3: "cells: 1 to 8"

    static void promise3_setCells_1IsTaken() {
        ScanDetector x = new ScanDetector();
        is("setCells(1)", x.setCells(1), 8);
        is("score(0)", x.score(0), 0);
        is("score(1)", x.score(1), NO_SUCH_CELL);
        is("cellOf(7)", x.cellOf(7), 0);
    }

    static void promise3_setCells_8IsTaken() {
        ScanDetector x = new ScanDetector();
        x.setCells(1);
        is("setCells(8)", x.setCells(8), 1);
        is("score(7)", x.score(7), 0);
        is("score(8)", x.score(8), NO_SUCH_CELL);
        is("cellOf(7)", x.cellOf(7), 7);
    }

    static void promise3_setCells_0IsRefused() {
        setCellsIsRefused(0);
    }

    static void promise3_setCells_9IsRefused() {
        setCellsIsRefused(9);
    }

    static void promise3_setCells_minus1IsRefused() {
        setCellsIsRefused(-1);
    }

    static void promise3_setCells_farOutIsRefused() {
        for (int far : FAR) {
            setCellsIsRefused(far);
        }
    }

    // "Returns the previous number of cells"

    static void promise3_setCells_answersThePreviousNumber() {
        ScanDetector x = new ScanDetector();
        is("setCells(2)", x.setCells(2), 8);
        is("setCells(2)", x.setCells(2), 2);
        is("setCells(9)", x.setCells(9), OUT_OF_RANGE);
        is("setCells(0)", x.setCells(0), OUT_OF_RANGE);
        is("setCells(8)", x.setCells(8), 2);
        is("setCells(1)", x.setCells(1), 8);
    }

    // "All cells, counters, pending attempts and verdicts are reset, and the clock is 0 again."

    static void promise3_setCells_resetsEveryCellAtTheSameNumber() {
        ScanDetector x = busyThenSetTo(4);
        for (int c = 0; c < 4; c++) {
            emptyCell(x, c);
        }
    }

    static void promise3_setCells_resetsEveryCellAtALargerNumber() {
        ScanDetector x = busyThenSetTo(8);
        for (int c = 0; c < 8; c++) {
            emptyCell(x, c);
        }
    }

    static void promise3_setCells_resetsCellsThatWereLeftOut() {
        ScanDetector x = busyThenSetTo(1);
        x.setCells(4);
        for (int c = 0; c < 4; c++) {
            emptyCell(x, c);
        }
    }

    static void promise3_setCells_resetsAttempts() {
        noAttempts(busyThenSetTo(4));
        noAttempts(busyThenSetTo(1));
    }

    static void promise3_setCells_resetsTwelveAttempts() {
        ScanDetector x = withTwelve();
        x.setCells(8);
        noAttempts(x);
        roomForTwelve(x);
    }

    static void promise3_setCells_resetsVerdicts() {
        noVerdicts(busyThenSetTo(4));
        noVerdicts(busyThenSetTo(8));
    }

    static void promise3_setCells_resetsTheClock() {
        is("clock()", busyThenSetTo(4).clock(), 0);
        is("clock()", busyThenSetTo(1).clock(), 0);
    }

    // "The four parameters, the timeout and the input buffer are kept."

    static void promise3_setCells_keepsTheStepUp() {
        ScanDetector x = busyThenSetTo(4);
        x.connect(0, 0, false);
        is("score(0)", x.score(0), 4);
    }

    static void promise3_setCells_keepsTheStepDown() {
        ScanDetector x = busyThenSetTo(4);
        x.connect(0, 0, true);
        is("score(0)", x.score(0), -3);
    }

    static void promise3_setCells_keepsTheUpperThreshold() {
        ScanDetector x = busyThenSetTo(4);
        is("up to 10", walk(x, 0, 0, "+-+---"), UNDECIDED);
        is("score(0)", x.score(0), 10);
        x = busyThenSetTo(4);
        is("up to 11", walk(x, 0, 0, "-+-+-+--"), SCANNER);
        is("score(0)", x.score(0), 11);
    }

    static void promise3_setCells_keepsTheLowerThreshold() {
        ScanDetector x = busyThenSetTo(4);
        is("down to -6", walk(x, 0, 0, "++"), UNDECIDED);
        is("down to -9", x.connect(0, 2, true), BENIGN);
        is("down to -5", walk(x, 1, 0, "-+++"), UNDECIDED);
        is("down to -8", x.connect(1, 4, true), BENIGN);
        is("down to -4", walk(x, 2, 0, "--++++"), UNDECIDED);
        is("down to -7", x.connect(2, 6, true), BENIGN);
    }

    static void promise3_setCells_keepsTheTimeout() {
        ScanDetector x = busyThenSetTo(3);
        x.attempt(0, 0);
        is("describeAttempt(0)", x.describeAttempt(0), 9000);
        is("setTimeout(1)", x.setTimeout(1), 9);
    }

    static void promise3_setCells_keepsTheInput() {
        ScanDetector x = busyThenSetTo(3);
        type(x, "5+");
        is("runInput()", x.runInput(), 2);
    }

    static void promise3_setCells_keepsAFullInput() {
        ScanDetector x = withFullInput();
        x.setCells(8);
        is("append('0')", x.append('0'), BUFFER_FULL);
        is("runInput()", x.runInput(), 10);
    }

    // ---- 4: "ticks: 1 to 20"

    static void promise4_setTimeout_1IsTaken() {
        ScanDetector x = new ScanDetector();
        is("setTimeout(1)", x.setTimeout(1), 3);
        x.attempt(0, 0);
        is("advance(1)", x.advance(1), 1);
    }

    static void promise4_setTimeout_20IsTaken() {
        ScanDetector x = new ScanDetector();
        is("setTimeout(20)", x.setTimeout(20), 3);
        x.attempt(0, 0);
        is("advance(19)", x.advance(19), 0);
        is("advance(1)", x.advance(1), 1);
    }

    static void promise4_setTimeout_0IsRefused() {
        setTimeoutIsRefused(0);
    }

    static void promise4_setTimeout_21IsRefused() {
        setTimeoutIsRefused(21);
    }

    static void promise4_setTimeout_minus1IsRefused() {
        setTimeoutIsRefused(-1);
    }

    static void promise4_setTimeout_farOutIsRefused() {
        for (int far : FAR) {
            setTimeoutIsRefused(far);
        }
    }

    // "Returns the previous timeout"

    static void promise4_setTimeout_answersThePreviousOne() {
        ScanDetector x = new ScanDetector();
        is("setTimeout(20)", x.setTimeout(20), 3);
        is("setTimeout(20)", x.setTimeout(20), 20);
        is("setTimeout(21)", x.setTimeout(21), OUT_OF_RANGE);
        is("setTimeout(0)", x.setTimeout(0), OUT_OF_RANGE);
        is("setTimeout(1)", x.setTimeout(1), 20);
        is("setTimeout(2)", x.setTimeout(2), 1);
    }

    // "Sets the timeout for attempts that begin from now on."

    static void promise4_setTimeout_keepsDeadlinesWhenItIsShorter() {
        ScanDetector x = new ScanDetector();
        x.attempt(0, 0);
        x.setTimeout(1);
        is("describeAttempt(0)", x.describeAttempt(0), 3000);
        is("advance(2)", x.advance(2), 0);
        is("advance(1)", x.advance(1), 1);
    }

    static void promise4_setTimeout_keepsDeadlinesWhenItIsLonger() {
        ScanDetector x = new ScanDetector();
        x.attempt(0, 0);
        x.setTimeout(20);
        is("describeAttempt(0)", x.describeAttempt(0), 3000);
        is("advance(3)", x.advance(3), 1);
    }

    static void promise4_setTimeout_changesNothingElse() {
        changesOnly("setTimeout(20)", busy(), x -> x.setTimeout(20), 9, "digest()");
    }

    static void promise4_setTimeout_theSameChangesNothing() {
        changesNothing("setTimeout(9)", EdgeCases::busy, x -> x.setTimeout(9), 9);
    }

    // ---- helpers

    private static void configureIsRefused(int up, int down, int upper, int lower) {
        changesNothing("configure(" + up + ", " + down + ", " + upper + ", " + lower + ")", EdgeCases::busy,
            x -> x.configure(up, down, upper, lower), OUT_OF_RANGE);
    }

    private static void setCellsIsRefused(int cells) {
        changesNothing("setCells(" + cells + ")", EdgeCases::busy, x -> x.setCells(cells), OUT_OF_RANGE);
    }

    private static void setTimeoutIsRefused(int ticks) {
        changesNothing("setTimeout(" + ticks + ")", EdgeCases::busy, x -> x.setTimeout(ticks), OUT_OF_RANGE);
    }

    private static ScanDetector busyThenConfigured() {
        ScanDetector x = busy();
        is("configure(4, 3, 11, -7)", x.configure(4, 3, 11, -7), 4);
        return x;
    }

    private static ScanDetector busyThenSetTo(int cells) {
        ScanDetector x = busy();
        is("setCells(" + cells + ")", x.setCells(cells), 4);
        return x;
    }

    private static void emptyCell(ScanDetector x, int c) {
        is("score(" + c + ")", x.score(c), 0);
        is("isBlocked(" + c + ")", x.isBlocked(c), 0);
        is("seenDestinations(" + c + ")", x.seenDestinations(c), 0);
        is("blockedContacts(" + c + ")", x.blockedContacts(c), 0);
        is("wronglyBlocked(" + c + ")", x.wronglyBlocked(c), 0);
    }

    private static void noAttempts(ScanDetector x) {
        is("attemptCount()", x.attemptCount(), 0);
        is("describeAttempt(0)", x.describeAttempt(0), NO_SUCH_ATTEMPT);
        is("answer(3, 30)", x.answer(3, 30), NO_SUCH_ATTEMPT);
        is("advance(50)", x.advance(50), 0);
    }

    private static void roomForTwelve(ScanDetector x) {
        for (int i = 0; i < 12; i++) {
            is("attempt(0, " + i + ")", x.attempt(0, i), UNDECIDED);
        }
        is("attempt(0, 12)", x.attempt(0, 12), TOO_MANY_ATTEMPTS);
    }

    private static void noVerdicts(ScanDetector x) {
        is("verdictCount()", x.verdictCount(), 0);
        is("describeVerdict(0)", x.describeVerdict(0), NO_SUCH_VERDICT);
    }
}
