/** The edges of promises 10 to 13: append, clearInput, firstError, runInput. */
public final class InputEdgesTest extends EdgeCases {
    public static void main(String[] args) {
        run(InputEdgesTest.class, 10, 13);
    }

    // ---- 10: "BAD_CHARACTER if code is not 32 to 126 (checked first)"

    static void promise10_append_32IsTaken() {
        ScanDetector x = new ScanDetector();
        is("append(32)", x.append(32), 1);
        is("clearInput()", x.clearInput(), 1);
    }

    static void promise10_append_126IsTaken() {
        ScanDetector x = new ScanDetector();
        is("append(126)", x.append(126), 1);
        is("clearInput()", x.clearInput(), 1);
    }

    static void promise10_append_everyCodeBetweenIsTaken() {
        ScanDetector x = new ScanDetector();
        for (int code = 32; code <= 126; code++) {
            is("append(" + code + ")", x.append(code), 1);
            x.clearInput();
        }
    }

    static void promise10_append_31IsRefused() {
        appendIsRefused(31);
    }

    static void promise10_append_127IsRefused() {
        appendIsRefused(127);
    }

    static void promise10_append_0IsRefused() {
        appendIsRefused(0);
    }

    static void promise10_append_minus1IsRefused() {
        appendIsRefused(-1);
    }

    /** 256 + 48 and 65536 + 48 are a '0' once they are cut to a byte or a char. */
    static void promise10_append_farOutIsRefused() {
        appendIsRefused(256 + 48);
        appendIsRefused(65536 + 48);
        for (int far : FAR) {
            appendIsRefused(far);
        }
    }

    static void promise10_append_badIsCheckedBeforeFull() {
        for (int code : new int[] {31, 127, -1}) {
            changesNothing("append(" + code + ")", EdgeCases::withFullInput, x -> x.append(code), BAD_CHARACTER);
        }
    }

    // "BUFFER_FULL if the buffer already has 59 characters", "Returns the new length of the buffer"

    static void promise10_append_the59thIsTaken() {
        ScanDetector x = new ScanDetector();
        for (int i = 1; i <= 58; i++) {
            x.append('~');
        }
        is("the 59th", x.append('~'), 59);
    }

    static void promise10_append_the60thIsRefused() {
        for (int code : new int[] {32, ',', 126}) {
            changesNothing("append(" + code + ")", EdgeCases::withFullInput, x -> x.append(code), BUFFER_FULL);
        }
    }

    static void promise10_append_everyLengthIsAnswered() {
        ScanDetector x = new ScanDetector();
        for (int i = 1; i <= 59; i++) {
            is("append '0'", x.append('0'), i);
        }
    }

    static void promise10_append_roomAfterClearInput() {
        ScanDetector x = withFullInput();
        x.clearInput();
        is("append('0')", x.append('0'), 1);
    }

    static void promise10_append_roomAfterRunInput() {
        ScanDetector x = withFullInput();
        x.runInput();
        is("append('0')", x.append('0'), 1);
    }

    static void promise10_append_noRoomAfterARefusedRun() {
        ScanDetector x = typed(TEN_CONTACTS.replace("7>30+", "7>30,"));
        is("runInput()", x.runInput(), INVALID_INPUT);
        is("append('0')", x.append('0'), BUFFER_FULL);
    }

    static void promise10_append_changesOnlyTheInput() {
        changesOnly("append('5')", busy(), x -> x.append('5'), 10, "firstError()", "digest()");
    }

    // ---- 11: "Returns the length that the buffer had."

    static void promise11_clearInput_ofAnEmptyBuffer() {
        changesNothing("clearInput()", ScanDetector::new, x -> x.clearInput(), 0);
    }

    static void promise11_clearInput_ofOneCharacter() {
        is("clearInput()", typed("3").clearInput(), 1);
    }

    static void promise11_clearInput_ofAFullBuffer() {
        ScanDetector x = withFullInput();
        is("clearInput()", x.clearInput(), 59);
        is("firstError()", x.firstError(), 0);
        is("runInput()", x.runInput(), INVALID_INPUT);
    }

    static void promise11_clearInput_twice() {
        ScanDetector x = withFullInput();
        x.clearInput();
        is("clearInput()", x.clearInput(), 0);
    }

    static void promise11_clearInput_leavesNothingOfTheText() {
        ScanDetector x = typed("3>07-");
        x.clearInput();
        type(x, "2>15");
        is("runInput()", x.runInput(), INVALID_INPUT);
        is("firstError()", x.firstError(), 4);
    }

    static void promise11_clearInput_changesOnlyTheInput() {
        changesOnly("clearInput()", busy(), x -> x.clearInput(), 9, "firstError()", "digest()");
    }

    // ---- 12: "the length of the buffer if there is none"

    static void promise12_firstError_ofAnEmptyBuffer() {
        is("firstError()", new ScanDetector().firstError(), 0);
    }

    static void promise12_firstError_ofEveryBeginningOfARightText() {
        ScanDetector x = new ScanDetector();
        for (int i = 0; i < 59; i++) {
            x.append(TEN_CONTACTS.charAt(i));
            is("firstError() of " + (i + 1), x.firstError(), i + 1);
        }
    }

    static void promise12_firstError_ofAFullBuffer() {
        is("firstError()", withFullInput().firstError(), 59);
    }

    static void promise12_firstError_changesNothing() {
        changesNothing("firstError()", EdgeCases::busy, x -> x.firstError(), 9);
        changesNothing("firstError()", () -> typed("3>32-"), x -> x.firstError(), 3);
    }

    // "Returns the index of the first character that is a syntax error"

    static void promise12_firstError_atTheFirstIndex() {
        is("firstError()", typed("8").firstError(), 0);
    }

    static void promise12_firstError_atTheLastIndex() {
        is("firstError()", typed(TEN_CONTACTS.substring(0, 58) + ",").firstError(), 58);
    }

    static void promise12_firstError_ofSeveralTheFirst() {
        is("firstError() of all wrong", typed("~~~~~~~").firstError(), 0);
        is("firstError() of 3>4,,", typed("3>4,,").firstError(), 2);
        is("firstError() of two errors", typed("3>07-,8>40+").firstError(), 6);
    }

    static void promise12_firstError_staysWhereItIs() {
        ScanDetector x = typed("3>32");
        is("firstError()", x.firstError(), 3);
        type(x, "-,3>07-");
        is("firstError() later", x.firstError(), 3);
    }

    // "for i % 6 == 0, a digit '0' to '7'; for 1, '>'; for 2, a digit '0' to '3'"

    static void promise12_firstError_index0Takes0To7() {
        takesOnly("", "01234567");
    }

    static void promise12_firstError_index1TakesTheArrow() {
        takesOnly("0", ">");
        takesOnly("7", ">");
    }

    static void promise12_firstError_index2Takes0To3() {
        takesOnly("7>", "0123");
    }

    // "for 3, a digit, and if the character at index i - 1 is '3', then '0' or '1'"

    static void promise12_firstError_index3TakesAnyDigitBehind0() {
        takesOnly("7>0", "0123456789");
    }

    static void promise12_firstError_index3TakesAnyDigitBehind1() {
        takesOnly("7>1", "0123456789");
    }

    static void promise12_firstError_index3TakesAnyDigitBehind2() {
        takesOnly("7>2", "0123456789");
    }

    static void promise12_firstError_index3Takes0And1Behind3() {
        takesOnly("7>3", "01");
    }

    // "for 4, '+' or '-'; for 5, ','"

    static void promise12_firstError_index4TakesPlusAndMinus() {
        takesOnly("7>00", "+-");
        takesOnly("7>31", "+-");
    }

    static void promise12_firstError_index5TakesTheComma() {
        takesOnly("7>00+", ",");
        takesOnly("7>31-", ",");
    }

    /** The indices go on modulo 6: after each of the ten contacts the same characters are right. */
    static void promise12_firstError_everyContactWrapsAround() {
        String[] right = {"07", ">", "03", "09", "+-", ","};
        String[] wrong = {"/8", "=?", "/4", "/:", "*,", "+-"};
        for (int i = 0; i < 59; i++) {
            String before = ("7>09+,").repeat(10).substring(0, i);
            for (int k = 0; k < right[i % 6].length(); k++) {
                is("right at " + i, typed(before + right[i % 6].charAt(k)).firstError(), i + 1);
            }
            for (int k = 0; k < wrong[i % 6].length(); k++) {
                is("wrong at " + i, typed(before + wrong[i % 6].charAt(k)).firstError(), i);
            }
        }
    }

    static void promise12_firstError_everyContactEndsAt31() {
        for (int n = 0; n < 10; n++) {
            String before = ("7>31+,").repeat(n) + "0>3";
            is("0 of contact " + n, typed(before + "0").firstError(), 6 * n + 4);
            is("1 of contact " + n, typed(before + "1").firstError(), 6 * n + 4);
            is("2 of contact " + n, typed(before + "2").firstError(), 6 * n + 3);
            is("9 of contact " + n, typed(before + "9").firstError(), 6 * n + 3);
        }
    }

    // ---- 13: "INVALID_INPUT if the buffer is not syntactically complete"

    static void promise13_runInput_ofAnEmptyBufferIsRefused() {
        changesNothing("runInput()", ScanDetector::new, x -> x.runInput(), INVALID_INPUT);
    }

    static void promise13_runInput_ofABeginningIsRefused() {
        for (int n = 1; n < 59; n++) {
            String text = TEN_CONTACTS.substring(0, n);
            if (n % 6 != 5) {
                changesNothing("runInput() of " + text, () -> typed(text), x -> x.runInput(), INVALID_INPUT);
            }
        }
    }

    static void promise13_runInput_ofOneToTenContactsIsTaken() {
        for (int n = 1; n <= 10; n++) {
            ScanDetector x = typed(TEN_CONTACTS.substring(0, 6 * n - 1));
            is("runInput() of " + n, x.runInput(), n);
            is("clearInput() of " + n, x.clearInput(), 0);
        }
    }

    static void promise13_runInput_ofACommaAtTheEndIsRefused() {
        changesNothing("runInput()", () -> typed("3>07-,"), x -> x.runInput(), INVALID_INPUT);
    }

    static void promise13_runInput_ofACommaAtTheStartIsRefused() {
        changesNothing("runInput()", () -> typed(",3>07-"), x -> x.runInput(), INVALID_INPUT);
    }

    static void promise13_runInput_ofTwoCommasIsRefused() {
        changesNothing("runInput()", () -> typed("3>07-,,3>08-"), x -> x.runInput(), INVALID_INPUT);
    }

    static void promise13_runInput_ofASignAtAWrongPlaceIsRefused() {
        for (String text : new String[] {"+", "-", "3-", "3>+", "3>0-", "3>07--", "3>07-+", "3>07-,+", "3>07-,2>1-"}) {
            changesNothing("runInput() of " + text, () -> typed(text), x -> x.runInput(), INVALID_INPUT);
        }
    }

    static void promise13_runInput_ofAnErrorInTheFirstContactIsRefused() {
        for (String text : new String[] {"8>00+", "0<00+", "0>40+", "0>32+", "0>0 +", "0>00*,0>01+", "8>00+,0>01+"}) {
            changesNothing("runInput() of " + text, () -> typed(text), x -> x.runInput(), INVALID_INPUT);
        }
    }

    static void promise13_runInput_ofAnErrorInTheLastContactMakesNone() {
        String text = TEN_CONTACTS.replace("7>30+", "7>32+");
        changesNothing("runInput()", () -> typed(text), x -> x.runInput(), INVALID_INPUT);
        ScanDetector x = typed(text);
        x.runInput();
        is("score(0)", x.score(0), 0);
        is("clearInput()", x.clearInput(), 59);
    }

    static void promise13_runInput_refusedOnABusyObjectChangesNothing() {
        changesNothing("runInput()", EdgeCases::busy, x -> x.runInput(), INVALID_INPUT);
    }

    static void promise13_runInput_goesOnOnceItIsComplete() {
        ScanDetector x = typed("3>07-,3>0");
        is("runInput()", x.runInput(), INVALID_INPUT);
        type(x, "8-");
        is("runInput()", x.runInput(), 2);
        is("score(3)", x.score(3), 6);
    }

    // "Makes all contacts that the buffer describes, in order, as connect does, and clears the buffer."

    static void promise13_runInput_ofTheFirstAndLastNumbers() {
        ScanDetector x = typed("0>00-,7>31+,0>31-,7>00+");
        is("runInput()", x.runInput(), 4);
        is("seenDestinations(0)", x.seenDestinations(0), 2147483649L);
        is("seenDestinations(7)", x.seenDestinations(7), 2147483649L);
        is("score(0)", x.score(0), 6);
        is("score(7)", x.score(7), -4);
    }

    static void promise13_runInput_ofAllDestinations() {
        ScanDetector x = configured(1, 1, 60, -60);
        for (int d = 0; d < 32; d++) {
            type(x, "4>" + d / 10 + d % 10 + "-");
            is("runInput() of " + d, x.runInput(), 1);
            is("seenDestinations(4)", x.seenDestinations(4), (1L << d + 1) - 1);
        }
    }

    static void promise13_runInput_ofAFullBuffer() {
        ScanDetector x = withFullInput();
        is("runInput()", x.runInput(), 10);
        int[] scores = {6, -2, 3, -2, 3, -2, 3, -4};
        for (int c = 0; c < 8; c++) {
            is("score(" + c + ")", x.score(c), scores[c]);
        }
        is("clearInput()", x.clearInput(), 0);
    }

    static void promise13_runInput_inOrder() {
        ScanDetector x = typed("2>05-,2>05+");
        is("runInput()", x.runInput(), 1);
        is("score(2)", x.score(2), 3);
    }

    static void promise13_runInput_isAsTheSameConnects() {
        ScanDetector x = withFullInput();
        x.runInput();
        ScanDetector y = new ScanDetector();
        for (String part : TEN_CONTACTS.split(",")) {
            y.connect(part.charAt(0) - '0', Integer.parseInt(part.substring(2, 4)), part.endsWith("+"));
        }
        same("runInput()", Shown.fromNowOn(x), Shown.fromNowOn(y));
    }

    // "Returns how many of them changed a score, that is, how many were neither blocked nor repeated"

    static void promise13_runInput_ofRepeatedOnesAnswers0() {
        ScanDetector x = new ScanDetector();
        x.connect(2, 5, false);
        x.attempt(2, 6);
        type(x, "2>05+,2>06-");
        is("runInput()", x.runInput(), 0);
        is("score(2)", x.score(2), 3);
        is("clearInput()", x.clearInput(), 0);
    }

    static void promise13_runInput_ofBlockedOnesAnswers0() {
        ScanDetector x = withBlocked();
        type(x, "5>09+,5>00-,5>10-");
        is("runInput()", x.runInput(), 0);
        is("blockedContacts(5)", x.blockedContacts(5), 3);
        is("wronglyBlocked(5)", x.wronglyBlocked(5), 1);
        is("clearInput()", x.clearInput(), 0);
    }

    static void promise13_runInput_countsTheScannerAndNoneBehindIt() {
        ScanDetector x = typed("1>00-,1>01-,1>02-,1>03-,1>04-,1>05+");
        is("runInput()", x.runInput(), 4);
        is("blockedContacts(1)", x.blockedContacts(1), 2);
        is("wronglyBlocked(1)", x.wronglyBlocked(1), 1);
        is("score(1)", x.score(1), 12);
    }

    static void promise13_runInput_countsTheBenignAndThoseBehindIt() {
        ScanDetector x = typed("1>00+,1>01+,1>02+,1>03+,1>03+,1>03-");
        is("runInput()", x.runInput(), 5);
        is("score(1)", x.score(1), -2);
        is("verdictCount()", x.verdictCount(), 1);
    }

    static void promise13_runInput_scannerDiscardsTwelve() {
        ScanDetector x = new ScanDetector();
        x.setCells(1);
        for (int i = 0; i < 12; i++) {
            x.attempt(i % 8, i);
        }
        type(x, "7>20-,6>21-,5>22-,4>23-");
        is("runInput()", x.runInput(), 4);
        is("attemptCount()", x.attemptCount(), 0);
    }

    static void promise13_runInput_sourcesWrapAround() {
        ScanDetector x = new ScanDetector();
        x.setCells(7);
        type(x, "0>05-,7>05-,7>06-");
        is("runInput()", x.runInput(), 2);
        is("score(0)", x.score(0), 6);
    }

    // ---- helpers

    private static void appendIsRefused(int code) {
        changesNothing("append(" + code + ")", EdgeCases::busy, x -> x.append(code), BAD_CHARACTER);
    }

    /** Behind this beginning, in the first, second and last contact, these characters are right and all others wrong. */
    private static void takesOnly(String begun, String right) {
        for (int contacts : new int[] {0, 1, 9}) {
            String before = ("3>07-,").repeat(contacts) + begun;
            for (int code = 32; code <= 126; code++) {
                boolean fits = right.indexOf(code) >= 0;
                if (before.length() < 59) {
                    String text = before + (char) code;
                    is("firstError() of " + text, typed(text).firstError(), fits ? text.length() : before.length());
                }
            }
        }
    }
}
