/** The edges of promises 5 to 7: connect, attempt, answer. */
public final class ContactsEdgesTest extends EdgeCases {
    public static void main(String[] args) {
        run(ContactsEdgesTest.class, 5, 7);
    }

    // ---- 5: "Sources are numbered 0 to 7, destinations 0 to 31."

    static void promise5_connect_source0IsTaken() {
        ScanDetector x = new ScanDetector();
        is("connect(0, 5, false)", x.connect(0, 5, false), UNDECIDED);
        is("score(0)", x.score(0), 3);
    }

    static void promise5_connect_source7IsTaken() {
        ScanDetector x = new ScanDetector();
        is("connect(7, 5, false)", x.connect(7, 5, false), UNDECIDED);
        is("score(7)", x.score(7), 3);
    }

    static void promise5_connect_sourceMinus1IsRefused() {
        connectIsRefused(-1, 5, NO_SUCH_SOURCE);
    }

    static void promise5_connect_source8IsRefused() {
        connectIsRefused(8, 5, NO_SUCH_SOURCE);
    }

    static void promise5_connect_sourceFarOutIsRefused() {
        for (int far : FAR) {
            connectIsRefused(far, 5, NO_SUCH_SOURCE);
        }
    }

    static void promise5_connect_destination0IsTaken() {
        ScanDetector x = new ScanDetector();
        is("connect(3, 0, true)", x.connect(3, 0, true), UNDECIDED);
        is("seenDestinations(3)", x.seenDestinations(3), 1);
    }

    static void promise5_connect_destination31IsTaken() {
        ScanDetector x = new ScanDetector();
        is("connect(3, 31, true)", x.connect(3, 31, true), UNDECIDED);
        is("seenDestinations(3)", x.seenDestinations(3), 2147483648L);
    }

    static void promise5_connect_destinationMinus1IsRefused() {
        connectIsRefused(3, -1, NO_SUCH_DESTINATION);
    }

    static void promise5_connect_destination32IsRefused() {
        connectIsRefused(3, 32, NO_SUCH_DESTINATION);
    }

    /** 64 and 70 are the shifts of 0 and 6 once more. */
    static void promise5_connect_destinationFarOutIsRefused() {
        connectIsRefused(3, 64, NO_SUCH_DESTINATION);
        connectIsRefused(0, 70, NO_SUCH_DESTINATION);
        for (int far : FAR) {
            connectIsRefused(3, far, NO_SUCH_DESTINATION);
        }
    }

    // "NO_SUCH_SOURCE if the source does not exist (checked first)"

    static void promise5_connect_sourceIsCheckedBeforeDestination() {
        connectIsRefused(-1, -1, NO_SUCH_SOURCE);
        connectIsRefused(8, 32, NO_SUCH_SOURCE);
    }

    static void promise5_connect_destinationIsCheckedBeforeBlocked() {
        connectIsRefused(1, 32, NO_SUCH_DESTINATION);
        connectIsRefused(5, -1, NO_SUCH_DESTINATION);
    }

    // "If the score is then at least the upper threshold, the verdict on the cell is SCANNER"

    static void promise5_connect_oneBelowTheUpperThresholdIsUndecided() {
        ScanDetector x = configured(3, 1, 7, -60);
        is("up to 6", walk(x, 0, 0, "--"), UNDECIDED);
        is("isBlocked(0)", x.isBlocked(0), 0);
        is("verdictCount()", x.verdictCount(), 0);
    }

    static void promise5_connect_atTheUpperThresholdIsScanner() {
        ScanDetector x = configured(3, 1, 6, -60);
        is("up to 6", walk(x, 0, 0, "--"), SCANNER);
        is("isBlocked(0)", x.isBlocked(0), 1);
        is("score(0)", x.score(0), 6);
        is("describeVerdict(0)", x.describeVerdict(0), 1);
    }

    static void promise5_connect_oneOverTheUpperThresholdIsScanner() {
        ScanDetector x = configured(3, 1, 5, -60);
        is("up to 6", walk(x, 0, 0, "--"), SCANNER);
        is("score(0)", x.score(0), 6);
    }

    static void promise5_connect_theFirstFailureMayBeEnough() {
        ScanDetector x = configured(9, 1, 1, -60);
        is("connect(0, 0, false)", x.connect(0, 0, false), SCANNER);
        is("score(0)", x.score(0), 9);
    }

    // "the cell is blocked, and all pending attempts of the sources of this cell are discarded"

    static void promise5_connect_scannerBlocksNoOtherCell() {
        ScanDetector x = withBlocked();
        for (int c = 0; c < 8; c++) {
            is("isBlocked(" + c + ")", x.isBlocked(c), c == 5 ? 1 : 0);
        }
    }

    static void promise5_connect_scannerDiscardsTwelve() {
        ScanDetector x = new ScanDetector();
        x.setCells(1);
        for (int i = 0; i < 12; i++) {
            x.attempt(i % 8, i);
        }
        is("a scanner", walk(x, 7, 20, "----"), SCANNER);
        is("attemptCount()", x.attemptCount(), 0);
        is("advance(50)", x.advance(50), 0);
        is("score(0)", x.score(0), 12);
    }

    static void promise5_connect_scannerDiscardsNothingWhereNothingPends() {
        ScanDetector x = new ScanDetector();
        is("a scanner", walk(x, 7, 20, "----"), SCANNER);
        is("attemptCount()", x.attemptCount(), 0);
    }

    static void promise5_connect_scannerDiscardsOfAllSourcesOfItsCell() {
        ScanDetector x = new ScanDetector();
        x.setCells(3);
        for (int s = 0; s < 8; s++) {
            x.attempt(s, s);
        }
        is("a scanner in cell 1", walk(x, 4, 20, "----"), SCANNER);
        int[] left = {0, 2, 3, 5, 6}; // 1, 4 and 7 are in cell 1
        is("attemptCount()", x.attemptCount(), left.length);
        for (int i = 0; i < left.length; i++) {
            is("describeAttempt(" + i + ")", x.describeAttempt(i), 3000 + 101 * left[i]);
        }
    }

    // "If the score is then at most the lower threshold, the verdict on the cell is BENIGN"

    static void promise5_connect_oneOverTheLowerThresholdIsUndecided() {
        ScanDetector x = configured(1, 3, 60, -7);
        is("down to -6", walk(x, 0, 0, "++"), UNDECIDED);
        is("score(0)", x.score(0), -6);
        is("seenDestinations(0)", x.seenDestinations(0), 3);
        is("verdictCount()", x.verdictCount(), 0);
    }

    static void promise5_connect_atTheLowerThresholdIsBenign() {
        ScanDetector x = configured(1, 3, 60, -6);
        is("down to -6", walk(x, 0, 0, "++"), BENIGN);
        is("describeVerdict(0)", x.describeVerdict(0), 2);
    }

    static void promise5_connect_oneBelowTheLowerThresholdIsBenign() {
        ScanDetector x = configured(1, 3, 60, -5);
        is("down to -6", walk(x, 0, 0, "++"), BENIGN);
    }

    static void promise5_connect_theFirstSuccessMayBeEnough() {
        ScanDetector x = configured(1, 9, 60, -1);
        is("connect(0, 0, true)", x.connect(0, 0, true), BENIGN);
    }

    // "the score becomes 0 and the set of seen destinations becomes empty. Pending attempts are kept."

    static void promise5_connect_benignMakesTheScore0() {
        ScanDetector x = configured(1, 9, 60, -5);
        walk(x, 0, 0, "+");
        is("score(0)", x.score(0), 0);
        is("isBlocked(0)", x.isBlocked(0), 0);
    }

    static void promise5_connect_benignKeepsTwelveAttempts() {
        ScanDetector x = new ScanDetector();
        x.setCells(1);
        for (int i = 0; i < 12; i++) {
            x.attempt(i % 8, i);
        }
        is("benign", walk(x, 7, 20, "++++"), BENIGN);
        is("attemptCount()", x.attemptCount(), 12);
        is("seenDestinations(0)", x.seenDestinations(0), 0);
        is("describeAttempt(11)", x.describeAttempt(11), 3311);
    }

    static void promise5_connect_benignLeavesOtherCells() {
        ScanDetector x = new ScanDetector();
        x.connect(1, 4, false);
        is("benign", walk(x, 0, 0, "++++"), BENIGN);
        is("score(1)", x.score(1), 3);
        is("seenDestinations(1)", x.seenDestinations(1), 16);
    }

    // "A first contact puts the destination into that set before the score changes."

    static void promise5_connect_scannerHasSeenItsLastDestination() {
        ScanDetector x = configured(1, 1, 1, -1);
        x.connect(0, 31, false);
        is("seenDestinations(0)", x.seenDestinations(0), 2147483648L);
    }

    static void promise5_connect_benignHasForgottenItsLastDestination() {
        ScanDetector x = configured(1, 1, 1, -1);
        x.connect(0, 31, true);
        is("seenDestinations(0)", x.seenDestinations(0), 0);
        is("connect(0, 31, true)", x.connect(0, 31, true), BENIGN);
    }

    // "BLOCKED if the cell of the source is blocked (.. nothing else changes)"

    static void promise5_connect_blockedWouldSucceed() {
        changesOnly("connect(5, 9, true)", withBlocked(), x -> x.connect(5, 9, true), BLOCKED,
            "blockedContacts(5)", "wronglyBlocked(5)", "digest()");
        ScanDetector x = withBlocked();
        x.connect(5, 9, true);
        is("blockedContacts(5)", x.blockedContacts(5), 1);
        is("wronglyBlocked(5)", x.wronglyBlocked(5), 1);
    }

    static void promise5_connect_blockedWouldFail() {
        changesOnly("connect(5, 9, false)", withBlocked(), x -> x.connect(5, 9, false), BLOCKED,
            "blockedContacts(5)", "digest()");
        ScanDetector x = withBlocked();
        x.connect(5, 9, false);
        is("blockedContacts(5)", x.blockedContacts(5), 1);
    }

    static void promise5_connect_blockedComesBeforeRepeated() {
        ScanDetector x = withBlocked();
        is("connect(5, 0, true)", x.connect(5, 0, true), BLOCKED);
        is("blockedContacts(5)", x.blockedContacts(5), 1);
        is("wronglyBlocked(5)", x.wronglyBlocked(5), 1);
    }

    static void promise5_connect_blockedForAnotherSourceOfTheCell() {
        ScanDetector x = new ScanDetector();
        x.setCells(5);
        walk(x, 1, 0, "----");
        is("connect(6, 9, true)", x.connect(6, 9, true), BLOCKED);
        is("wronglyBlocked(1)", x.wronglyBlocked(1), 1);
        is("connect(5, 9, true)", x.connect(5, 9, true), UNDECIDED);
    }

    // "else REPEATED if it is not a first contact (nothing changes)"

    static void promise5_connect_repeatedAfterConnect() {
        changesNothing("connect(0, 6, false)", EdgeCases::busy, x -> x.connect(0, 6, false), REPEATED);
        changesNothing("connect(2, 3, true)", EdgeCases::busy, x -> x.connect(2, 3, true), REPEATED);
    }

    static void promise5_connect_repeatedWhileAnAttemptPends() {
        changesNothing("connect(3, 30, true)", EdgeCases::busy, x -> x.connect(3, 30, true), REPEATED);
        changesNothing("connect(7, 31, false)", EdgeCases::busy, x -> x.connect(7, 31, false), REPEATED);
    }

    static void promise5_connect_repeatedByAnotherSourceOfTheCell() {
        changesNothing("connect(4, 6, true)", EdgeCases::busy, x -> x.connect(4, 6, true), REPEATED);
    }

    static void promise5_connect_anotherCellHasItsOwnSet() {
        ScanDetector x = new ScanDetector();
        x.connect(0, 6, false);
        is("connect(1, 6, false)", x.connect(1, 6, false), UNDECIDED);
    }

    static void promise5_connect_all32SeenAreAllRepeated() {
        ScanDetector x = configured(1, 1, 60, -60);
        is("the 32nd", walk(x, 0, 0, "--------------------------------"), UNDECIDED);
        for (int d = 0; d < 32; d++) {
            is("connect(0, " + d + ", false)", x.connect(0, d, false), REPEATED);
        }
        is("score(0)", x.score(0), 32);
    }

    static void promise5_connect_firstAgainAfterBenign() {
        ScanDetector x = new ScanDetector();
        walk(x, 0, 0, "++++");
        is("connect(0, 0, true)", x.connect(0, 0, true), UNDECIDED);
        is("score(0)", x.score(0), -2);
    }

    // ---- 6: attempt

    static void promise6_attempt_source0IsTaken() {
        ScanDetector x = new ScanDetector();
        is("attempt(0, 5)", x.attempt(0, 5), UNDECIDED);
        is("describeAttempt(0)", x.describeAttempt(0), 3005);
    }

    static void promise6_attempt_source7IsTaken() {
        ScanDetector x = new ScanDetector();
        is("attempt(7, 5)", x.attempt(7, 5), UNDECIDED);
        is("describeAttempt(0)", x.describeAttempt(0), 3705);
    }

    static void promise6_attempt_sourceMinus1IsRefused() {
        attemptIsRefused(-1, 5, NO_SUCH_SOURCE);
    }

    static void promise6_attempt_source8IsRefused() {
        attemptIsRefused(8, 5, NO_SUCH_SOURCE);
    }

    static void promise6_attempt_sourceFarOutIsRefused() {
        for (int far : FAR) {
            attemptIsRefused(far, 5, NO_SUCH_SOURCE);
        }
    }

    static void promise6_attempt_destination0IsTaken() {
        ScanDetector x = new ScanDetector();
        is("attempt(3, 0)", x.attempt(3, 0), UNDECIDED);
        is("describeAttempt(0)", x.describeAttempt(0), 3300);
        is("seenDestinations(3)", x.seenDestinations(3), 1);
    }

    static void promise6_attempt_destination31IsTaken() {
        ScanDetector x = new ScanDetector();
        is("attempt(3, 31)", x.attempt(3, 31), UNDECIDED);
        is("describeAttempt(0)", x.describeAttempt(0), 3331);
        is("seenDestinations(3)", x.seenDestinations(3), 2147483648L);
    }

    static void promise6_attempt_destinationMinus1IsRefused() {
        attemptIsRefused(3, -1, NO_SUCH_DESTINATION);
    }

    static void promise6_attempt_destination32IsRefused() {
        attemptIsRefused(3, 32, NO_SUCH_DESTINATION);
    }

    static void promise6_attempt_destinationFarOutIsRefused() {
        attemptIsRefused(3, 64, NO_SUCH_DESTINATION);
        attemptIsRefused(0, 70, NO_SUCH_DESTINATION);
        for (int far : FAR) {
            attemptIsRefused(3, far, NO_SUCH_DESTINATION);
        }
    }

    // "NO_SUCH_SOURCE .. (checked first); NO_SUCH_DESTINATION .. (checked second)"

    static void promise6_attempt_sourceIsCheckedBeforeDestination() {
        attemptIsRefused(-1, -1, NO_SUCH_SOURCE);
        attemptIsRefused(8, 32, NO_SUCH_SOURCE);
    }

    static void promise6_attempt_destinationIsCheckedBeforeBlocked() {
        attemptIsRefused(1, 32, NO_SUCH_DESTINATION);
        attemptIsRefused(5, -1, NO_SUCH_DESTINATION);
    }

    static void promise6_attempt_sourceIsCheckedThoughTwelvePend() {
        changesNothing("attempt(8, 20)", EdgeCases::withTwelve, x -> x.attempt(8, 20), NO_SUCH_SOURCE);
    }

    static void promise6_attempt_destinationIsCheckedThoughTwelvePend() {
        changesNothing("attempt(0, 32)", EdgeCases::withTwelve, x -> x.attempt(0, 32), NO_SUCH_DESTINATION);
    }

    // "TOO_MANY_ATTEMPTS if the attempt would be pending but 12 attempts are pending already"

    static void promise6_attempt_theTwelfthIsTaken() {
        ScanDetector x = new ScanDetector();
        for (int i = 0; i < 11; i++) {
            x.attempt(0, i);
        }
        is("the twelfth", x.attempt(0, 11), UNDECIDED);
        is("attemptCount()", x.attemptCount(), 12);
        is("describeAttempt(11)", x.describeAttempt(11), 3011);
    }

    static void promise6_attempt_theThirteenthIsRefused() {
        changesNothing("attempt(0, 20)", EdgeCases::withTwelve, x -> x.attempt(0, 20), TOO_MANY_ATTEMPTS);
        changesNothing("attempt(7, 31)", EdgeCases::withTwelve, x -> x.attempt(7, 31), TOO_MANY_ATTEMPTS);
    }

    static void promise6_attempt_theRefusedDestinationIsStillNew() {
        ScanDetector x = withTwelve();
        x.attempt(0, 20);
        x.answer(0, 0);
        is("attempt(0, 20)", x.attempt(0, 20), UNDECIDED);
        is("describeAttempt(11)", x.describeAttempt(11), 20020);
    }

    static void promise6_attempt_repeatedThoughTwelvePend() {
        changesNothing("attempt(0, 4)", EdgeCases::withTwelve, x -> x.attempt(0, 4), REPEATED);
    }

    static void promise6_attempt_blockedThoughTwelvePend() {
        ScanDetector x = withTwelve();
        is("attempt(5, 30)", x.attempt(5, 30), BLOCKED);
        is("blockedContacts(5)", x.blockedContacts(5), 1);
        is("attemptCount()", x.attemptCount(), 12);
    }

    static void promise6_attempt_roomAfterAnAnswer() {
        ScanDetector x = withTwelve();
        x.answer(3, 11);
        is("attempt(7, 20)", x.attempt(7, 20), UNDECIDED);
        is("attempt(7, 21)", x.attempt(7, 21), TOO_MANY_ATTEMPTS);
    }

    static void promise6_attempt_roomAfterATimeout() {
        ScanDetector x = new ScanDetector();
        x.attempt(0, 0);
        x.setTimeout(20);
        for (int i = 1; i < 12; i++) {
            x.attempt(i % 4, i);
        }
        is("attempt(7, 20)", x.attempt(7, 20), TOO_MANY_ATTEMPTS);
        is("advance(3)", x.advance(3), 1);
        is("attempt(7, 20)", x.attempt(7, 20), UNDECIDED);
        is("attempt(7, 21)", x.attempt(7, 21), TOO_MANY_ATTEMPTS);
    }

    static void promise6_attempt_roomAfterAScanner() {
        ScanDetector x = withTwelve();
        is("a scanner", walk(x, 2, 20, "----"), SCANNER); // 2, 6 and 10 are discarded
        is("attemptCount()", x.attemptCount(), 9);
        for (int d = 20; d < 23; d++) {
            is("attempt(7, " + d + ")", x.attempt(7, d), UNDECIDED);
        }
        is("attempt(7, 23)", x.attempt(7, 23), TOO_MANY_ATTEMPTS);
    }

    static void promise6_attempt_noRoomAfterBenign() {
        ScanDetector x = withTwelve();
        is("benign", walk(x, 2, 20, "++++"), BENIGN);
        is("attempt(2, 2)", x.attempt(2, 2), TOO_MANY_ATTEMPTS);
        is("seenDestinations(2)", x.seenDestinations(2), 0);
    }

    static void promise6_attempt_connectIsTakenThoughTwelvePend() {
        ScanDetector x = withTwelve();
        is("connect(7, 20, false)", x.connect(7, 20, false), UNDECIDED);
        is("score(7)", x.score(7), 3);
    }

    // "BLOCKED if the cell of the source is blocked (counted by blockedContacts only)"

    static void promise6_attempt_blockedIsCountedOnce() {
        changesOnly("attempt(5, 9)", withBlocked(), x -> x.attempt(5, 9), BLOCKED, "blockedContacts(5)", "digest()");
        ScanDetector x = withBlocked();
        x.attempt(5, 9);
        is("blockedContacts(5)", x.blockedContacts(5), 1);
        is("wronglyBlocked(5)", x.wronglyBlocked(5), 0);
    }

    static void promise6_attempt_blockedComesBeforeRepeated() {
        ScanDetector x = withBlocked();
        is("attempt(5, 0)", x.attempt(5, 0), BLOCKED);
        is("blockedContacts(5)", x.blockedContacts(5), 1);
    }

    // "else REPEATED if it is not a first contact (nothing changes)"

    static void promise6_attempt_repeatedAfterConnect() {
        changesNothing("attempt(0, 6)", EdgeCases::busy, x -> x.attempt(0, 6), REPEATED);
    }

    static void promise6_attempt_repeatedWhileItPends() {
        changesNothing("attempt(3, 30)", EdgeCases::busy, x -> x.attempt(3, 30), REPEATED);
    }

    static void promise6_attempt_repeatedByAnotherSourceOfTheCell() {
        changesNothing("attempt(3, 31)", EdgeCases::busy, x -> x.attempt(3, 31), REPEATED);
    }

    static void promise6_attempt_repeatedAfterItsAnswer() {
        ScanDetector x = new ScanDetector();
        x.attempt(0, 0);
        x.answer(0, 0);
        is("attempt(0, 0)", x.attempt(0, 0), REPEATED);
    }

    static void promise6_attempt_repeatedAfterItsTimeout() {
        ScanDetector x = new ScanDetector();
        x.attempt(0, 0);
        x.advance(3);
        is("attempt(0, 0)", x.attempt(0, 0), REPEATED);
    }

    static void promise6_attempt_all32SeenAreAllRepeated() {
        ScanDetector x = configured(1, 1, 60, -60);
        walk(x, 0, 0, "--------------------------------");
        for (int d = 0; d < 32; d++) {
            is("attempt(0, " + d + ")", x.attempt(0, d), REPEATED);
        }
        is("attemptCount()", x.attemptCount(), 0);
    }

    // "A pending attempt is a first contact when it begins."

    static void promise6_attempt_isSeenBeforeItsOutcome() {
        ScanDetector x = new ScanDetector();
        x.attempt(0, 17);
        is("seenDestinations(0)", x.seenDestinations(0), 1 << 17);
        is("score(0)", x.score(0), 0);
        is("verdictCount()", x.verdictCount(), 0);
    }

    static void promise6_attempt_beginsTwiceAfterBenign() {
        ScanDetector x = new ScanDetector();
        x.attempt(0, 17);
        walk(x, 0, 0, "++++");
        is("attempt(0, 17)", x.attempt(0, 17), UNDECIDED);
        is("attemptCount()", x.attemptCount(), 2);
    }

    // ---- 7: "NO_SUCH_ATTEMPT if no such attempt is pending"

    static void promise7_answer_ofNoneIsRefused() {
        changesNothing("answer(0, 0)", ScanDetector::new, x -> x.answer(0, 0), NO_SUCH_ATTEMPT);
    }

    static void promise7_answer_sourceMinus1IsRefused() {
        answerIsRefused(-1, 30);
    }

    static void promise7_answer_source8IsRefused() {
        answerIsRefused(8, 5);
    }

    static void promise7_answer_destinationMinus1IsRefused() {
        answerIsRefused(3, -1);
    }

    static void promise7_answer_destination32IsRefused() {
        answerIsRefused(3, 32);
    }

    static void promise7_answer_farOutIsRefused() {
        for (int far : FAR) {
            answerIsRefused(far, 30);
            answerIsRefused(3, far);
        }
    }

    static void promise7_answer_byAnotherSourceOfTheCellIsRefused() {
        answerIsRefused(7, 30);
        answerIsRefused(4, 5);
    }

    static void promise7_answer_ofAnotherDestinationIsRefused() {
        answerIsRefused(3, 31);
        answerIsRefused(3, 29);
    }

    static void promise7_answer_ofAConnectIsRefused() {
        answerIsRefused(0, 6);
    }

    static void promise7_answer_ofABlockedAttemptIsRefused() {
        answerIsRefused(5, 9);
    }

    static void promise7_answer_twiceIsRefused() {
        ScanDetector x = new ScanDetector();
        x.attempt(0, 0);
        is("answer(0, 0)", x.answer(0, 0), UNDECIDED);
        is("answer(0, 0)", x.answer(0, 0), NO_SUCH_ATTEMPT);
        is("score(0)", x.score(0), -2);
    }

    static void promise7_answer_oneTickBeforeTheDeadlineIsTaken() {
        ScanDetector x = new ScanDetector();
        x.attempt(0, 0);
        x.advance(2);
        is("answer(0, 0)", x.answer(0, 0), UNDECIDED);
        is("advance(1)", x.advance(1), 0);
        is("score(0)", x.score(0), -2);
    }

    static void promise7_answer_atTheDeadlineIsRefused() {
        ScanDetector x = new ScanDetector();
        x.attempt(0, 0);
        x.advance(3);
        is("answer(0, 0)", x.answer(0, 0), NO_SUCH_ATTEMPT);
        is("score(0)", x.score(0), 3);
    }

    static void promise7_answer_ofADiscardedOneIsRefused() {
        ScanDetector x = new ScanDetector();
        x.attempt(0, 0);
        walk(x, 0, 1, "----");
        is("answer(0, 0)", x.answer(0, 0), NO_SUCH_ATTEMPT);
        is("score(0)", x.score(0), 12);
        x.unblock(0);
        is("answer(0, 0) after unblock", x.answer(0, 0), NO_SUCH_ATTEMPT);
    }

    static void promise7_answer_ofTheFirstOfTwelve() {
        ScanDetector x = withTwelve();
        is("answer(0, 0)", x.answer(0, 0), UNDECIDED);
        is("attemptCount()", x.attemptCount(), 11);
        is("describeAttempt(0)", x.describeAttempt(0), 20101);
        is("describeAttempt(10)", x.describeAttempt(10), 20311);
    }

    static void promise7_answer_ofTheLastOfTwelve() {
        ScanDetector x = withTwelve();
        is("answer(3, 11)", x.answer(3, 11), UNDECIDED);
        is("attemptCount()", x.attemptCount(), 11);
        is("describeAttempt(0)", x.describeAttempt(0), 20000);
        is("describeAttempt(10)", x.describeAttempt(10), 20210);
        is("describeAttempt(11)", x.describeAttempt(11), NO_SUCH_ATTEMPT);
    }

    static void promise7_answer_ofAllTwelve() {
        ScanDetector x = withTwelve();
        x.configure(1, 1, 60, -60);
        for (int i = 0; i < 12; i++) {
            x.attempt(0, i);
        }
        for (int i = 11; i >= 0; i--) {
            is("answer(0, " + i + ")", x.answer(0, i), UNDECIDED);
            is("attemptCount()", x.attemptCount(), i);
        }
        is("score(0)", x.score(0), -12);
    }

    // "If several attempts of the source with this destination are pending, it is the one that began first."

    static void promise7_answer_ofTwoTheOneThatBeganFirst() {
        ScanDetector x = new ScanDetector();
        x.attempt(0, 5);
        walk(x, 0, 10, "++++");
        x.advance(1);
        x.attempt(0, 5);
        is("answer(0, 5)", x.answer(0, 5), UNDECIDED);
        is("describeAttempt(0)", x.describeAttempt(0), 3005);
    }

    static void promise7_answer_ofTwoNotTheOneThatIsDueFirst() {
        ScanDetector x = new ScanDetector();
        x.setTimeout(20);
        x.attempt(0, 5);
        walk(x, 0, 10, "++++");
        x.setTimeout(1);
        x.attempt(0, 5);
        is("answer(0, 5)", x.answer(0, 5), UNDECIDED);
        is("describeAttempt(0)", x.describeAttempt(0), 1005);
        is("attemptCount()", x.attemptCount(), 1);
    }

    static void promise7_answer_ofTwoSourcesTheNamedOne() {
        ScanDetector x = new ScanDetector();
        x.setCells(1);
        x.attempt(3, 5);
        walk(x, 0, 10, "++++");
        x.attempt(4, 5);
        is("answer(4, 5)", x.answer(4, 5), UNDECIDED);
        is("describeAttempt(0)", x.describeAttempt(0), 3305);
    }

    // "Returns the verdict after it": the lower threshold

    static void promise7_answer_oneOverTheLowerThresholdIsUndecided() {
        ScanDetector x = configured(1, 3, 60, -4);
        x.attempt(0, 0);
        is("answer(0, 0)", x.answer(0, 0), UNDECIDED);
        is("score(0)", x.score(0), -3);
    }

    static void promise7_answer_atTheLowerThresholdIsBenign() {
        ScanDetector x = configured(1, 3, 60, -3);
        x.attempt(0, 0);
        is("answer(0, 0)", x.answer(0, 0), BENIGN);
        is("score(0)", x.score(0), 0);
        is("seenDestinations(0)", x.seenDestinations(0), 0);
        is("describeVerdict(0)", x.describeVerdict(0), 2);
    }

    static void promise7_answer_oneBelowTheLowerThresholdIsBenign() {
        ScanDetector x = configured(1, 3, 60, -2);
        x.attempt(0, 0);
        is("answer(0, 0)", x.answer(0, 0), BENIGN);
    }

    static void promise7_answer_benignKeepsTheOtherAttempts() {
        ScanDetector x = configured(1, 3, 60, -3);
        x.attempt(0, 0);
        x.attempt(0, 1);
        x.answer(0, 0);
        is("attemptCount()", x.attemptCount(), 1);
        is("describeAttempt(0)", x.describeAttempt(0), 3001);
    }

    static void promise7_answer_putsNothingIntoTheSeenSet() {
        ScanDetector x = configured(1, 3, 60, -5);
        x.attempt(0, 5);
        walk(x, 0, 0, "++"); // benign: 5 is forgotten, and still pends
        is("answer(0, 5)", x.answer(0, 5), UNDECIDED);
        is("seenDestinations(0)", x.seenDestinations(0), 0);
        is("attempt(0, 5)", x.attempt(0, 5), UNDECIDED);
    }

    static void promise7_answer_ofASourceThatWrapsAround() {
        ScanDetector x = new ScanDetector();
        x.setCells(7);
        x.attempt(7, 5);
        is("answer(7, 5)", x.answer(7, 5), UNDECIDED);
        is("score(0)", x.score(0), -2);
    }

    // ---- helpers

    private static void connectIsRefused(int source, int destination, int code) {
        for (boolean success : new boolean[] {false, true}) {
            changesNothing("connect(" + source + ", " + destination + ", " + success + ")", EdgeCases::busy,
                x -> x.connect(source, destination, success), code);
        }
    }

    private static void attemptIsRefused(int source, int destination, int code) {
        changesNothing("attempt(" + source + ", " + destination + ")", EdgeCases::busy,
            x -> x.attempt(source, destination), code);
    }

    private static void answerIsRefused(int source, int destination) {
        changesNothing("answer(" + source + ", " + destination + ")", EdgeCases::busy,
            x -> x.answer(source, destination), NO_SUCH_ATTEMPT);
    }
}
