/** The edges of promises 20 to 24: attemptCount, describeAttempt, clock, verdictCount, describeVerdict. */
public final class RecordsEdgesTest extends EdgeCases {
    public static void main(String[] args) {
        run(RecordsEdgesTest.class, 20, 24);
    }

    // ---- 20: "Returns the number of pending attempts." "There are at most 12 pending attempts."

    static void promise20_attemptCount_none() {
        is("attemptCount()", new ScanDetector().attemptCount(), 0);
    }

    static void promise20_attemptCount_upToTwelveAndNoFurther() {
        ScanDetector x = new ScanDetector();
        for (int i = 1; i <= 12; i++) {
            x.attempt(0, i);
            is("after " + i, x.attemptCount(), i);
        }
        x.attempt(0, 13);
        is("after a refused one", x.attemptCount(), 12);
    }

    static void promise20_attemptCount_notABlockedOrRepeatedOne() {
        ScanDetector x = withBlocked();
        x.attempt(5, 9);
        x.attempt(2, 2);
        is("attemptCount()", x.attemptCount(), 1);
    }

    static void promise20_attemptCount_downToNone() {
        ScanDetector x = new ScanDetector();
        x.attempt(0, 0);
        x.attempt(1, 0);
        x.answer(0, 0);
        is("after an answer", x.attemptCount(), 1);
        x.advance(3);
        is("after a timeout", x.attemptCount(), 0);
    }

    static void promise20_attemptCount_changesNothing() {
        changesNothing("attemptCount()", EdgeCases::busy, x -> x.attemptCount(), 3);
    }

    // ---- 21: "index: the index of the attempt among the pending ones, from 0, in the order in which they began"

    static void promise21_describeAttempt_ofNoneIsRefused() {
        changesNothing("describeAttempt(0)", ScanDetector::new, x -> x.describeAttempt(0), NO_SUCH_ATTEMPT);
    }

    static void promise21_describeAttempt_minus1IsRefused() {
        describeIsRefused(-1);
    }

    static void promise21_describeAttempt_theFirstIsTaken() {
        is("describeAttempt(0)", busy().describeAttempt(0), 7330);
    }

    static void promise21_describeAttempt_theLastIsTaken() {
        is("describeAttempt(2)", busy().describeAttempt(2), 9005);
    }

    static void promise21_describeAttempt_behindTheLastIsRefused() {
        describeIsRefused(3);
    }

    static void promise21_describeAttempt_farOutIsRefused() {
        describeIsRefused(12);
        for (int far : FAR) {
            describeIsRefused(far);
        }
    }

    static void promise21_describeAttempt_allOfTwelve() {
        ScanDetector x = withTwelve();
        for (int i = 0; i < 12; i++) {
            is("describeAttempt(" + i + ")", x.describeAttempt(i), 20000 + 100 * (i % 4) + i);
        }
    }

    static void promise21_describeAttempt_behindTwelveIsRefused() {
        changesNothing("describeAttempt(12)", EdgeCases::withTwelve, x -> x.describeAttempt(12), NO_SUCH_ATTEMPT);
        changesNothing("describeAttempt(-1)", EdgeCases::withTwelve, x -> x.describeAttempt(-1), NO_SUCH_ATTEMPT);
    }

    static void promise21_describeAttempt_whereOneHasBeenIsRefused() {
        ScanDetector x = withTwelve();
        x.answer(0, 0);
        is("describeAttempt(11)", x.describeAttempt(11), NO_SUCH_ATTEMPT);
        is("describeAttempt(10)", x.describeAttempt(10), 20311);
    }

    static void promise21_describeAttempt_keepsTheOrderWhenOneGoes() {
        ScanDetector x = withTwelve();
        x.answer(1, 5);
        is("describeAttempt(4)", x.describeAttempt(4), 20004);
        is("describeAttempt(5)", x.describeAttempt(5), 20206);
    }

    static void promise21_describeAttempt_orderIsNotThatOfDeadlines() {
        ScanDetector x = new ScanDetector();
        x.setTimeout(20);
        x.attempt(6, 1);
        x.setTimeout(1);
        x.attempt(5, 2);
        is("describeAttempt(0)", x.describeAttempt(0), 20601);
        is("describeAttempt(1)", x.describeAttempt(1), 1502);
    }

    // "Returns 1000 * r + 100 * s + d, where r is the number of ticks until its deadline"

    static void promise21_describeAttempt_theLeast() {
        ScanDetector x = new ScanDetector();
        x.setTimeout(1);
        x.attempt(0, 0);
        is("describeAttempt(0)", x.describeAttempt(0), 1000);
    }

    static void promise21_describeAttempt_theLargest() {
        ScanDetector x = new ScanDetector();
        x.setTimeout(20);
        x.attempt(7, 31);
        is("describeAttempt(0)", x.describeAttempt(0), 20731);
    }

    static void promise21_describeAttempt_countsTheTicksDown() {
        ScanDetector x = new ScanDetector();
        x.setTimeout(20);
        x.attempt(7, 31);
        for (int left = 19; left >= 1; left--) {
            x.advance(1);
            is("describeAttempt(0)", x.describeAttempt(0), 1000 * left + 731);
        }
        x.advance(1);
        is("describeAttempt(0)", x.describeAttempt(0), NO_SUCH_ATTEMPT);
    }

    static void promise21_describeAttempt_tellsTheSourceNotTheCell() {
        ScanDetector x = new ScanDetector();
        x.setCells(1);
        x.attempt(7, 4);
        is("describeAttempt(0)", x.describeAttempt(0), 3704);
    }

    static void promise21_describeAttempt_ofALateClock() {
        ScanDetector x = new ScanDetector();
        for (int i = 0; i < 500; i++) {
            x.advance(50);
        }
        x.attempt(7, 31);
        is("describeAttempt(0)", x.describeAttempt(0), 3731);
    }

    // ---- 22: "There is a clock, 0 at the start."

    static void promise22_clock_atTheStart() {
        changesNothing("clock()", ScanDetector::new, x -> x.clock(), 0);
    }

    static void promise22_clock_afterTheShortestAndTheLongestAdvance() {
        ScanDetector x = new ScanDetector();
        x.advance(1);
        is("clock()", x.clock(), 1);
        x.advance(50);
        is("clock()", x.clock(), 51);
    }

    static void promise22_clock_notAfterARefusedAdvance() {
        ScanDetector x = new ScanDetector();
        x.advance(7);
        x.advance(0);
        x.advance(51);
        x.advance(-7);
        is("clock()", x.clock(), 7);
    }

    static void promise22_clock_theLatestThatCallsAllow() {
        ScanDetector x = new ScanDetector();
        for (int i = 0; i < 511; i++) {
            x.advance(50);
        }
        is("call 512: clock()", x.clock(), 25550);
    }

    static void promise22_clock_startsAgainAtAReset() {
        ScanDetector x = new ScanDetector();
        x.advance(50);
        x.configure(1, 1, 1, -1);
        is("after configure", x.clock(), 0);
        x.advance(3);
        x.setCells(8);
        is("after setCells", x.clock(), 0);
        x.advance(4);
        x.setTimeout(1);
        is("not after setTimeout", x.clock(), 4);
    }

    // ---- 23: "Returns the number of verdicts SCANNER and BENIGN since the last reset."

    static void promise23_verdictCount_none() {
        ScanDetector x = new ScanDetector();
        is("at the start", x.verdictCount(), 0);
        x.connect(0, 0, false);
        x.connect(0, 1, true);
        is("after UNDECIDED", x.verdictCount(), 0);
    }

    static void promise23_verdictCount_bothKinds() {
        ScanDetector x = configured(1, 1, 1, -1);
        x.connect(0, 0, false);
        is("after SCANNER", x.verdictCount(), 1);
        x.connect(1, 0, true);
        is("after BENIGN", x.verdictCount(), 2);
        x.connect(0, 1, false);
        is("not after BLOCKED", x.verdictCount(), 2);
    }

    static void promise23_verdictCount_ofEachWayToAVerdict() {
        ScanDetector x = configured(1, 1, 1, -1);
        x.attempt(0, 0);
        x.answer(0, 0);
        is("by an answer", x.verdictCount(), 1);
        x.attempt(0, 0);
        x.advance(3);
        is("by a timeout", x.verdictCount(), 2);
        type(x, "1>00+,2>00-");
        x.runInput();
        is("by text", x.verdictCount(), 4);
    }

    static void promise23_verdictCount_goesOnBehind16() {
        ScanDetector x = configured(1, 1, 1, -1);
        for (int n = 1; n <= 40; n++) {
            x.connect(0, 0, true);
            is("after " + n, x.verdictCount(), n);
        }
    }

    static void promise23_verdictCount_theMostThatCallsAllow() {
        ScanDetector x = configured(1, 1, 1, -1);
        for (int n = 0; n < 510; n++) {
            x.connect(0, 0, true);
        }
        is("call 512: verdictCount()", x.verdictCount(), 510);
    }

    static void promise23_verdictCount_startsAgainAtAReset() {
        ScanDetector x = manyVerdicts(20);
        x.configure(1, 1, 1, -1);
        is("after configure", x.verdictCount(), 0);
        x.connect(0, 0, true);
        x.setCells(8);
        is("after setCells", x.verdictCount(), 0);
        x.connect(0, 0, true);
        x.setTimeout(2);
        is("not after setTimeout", x.verdictCount(), 1);
    }

    static void promise23_verdictCount_keptByUnblock() {
        ScanDetector x = withBlocked();
        x.unblock(5);
        is("verdictCount()", x.verdictCount(), 1);
    }

    // ---- 24: "back: how many verdicts came after it, 0 to 15"; "NO_SUCH_VERDICT if back is out of range or
    // there have not been so many verdicts"

    static void promise24_describeVerdict_ofNoneIsRefused() {
        changesNothing("describeVerdict(0)", ScanDetector::new, x -> x.describeVerdict(0), NO_SUCH_VERDICT);
    }

    static void promise24_describeVerdict_ofOne() {
        ScanDetector x = manyVerdicts(1);
        is("describeVerdict(0)", x.describeVerdict(0), told(0));
        is("describeVerdict(1)", x.describeVerdict(1), NO_SUCH_VERDICT);
    }

    static void promise24_describeVerdict_minus1IsRefused() {
        for (int n : new int[] {1, 15, 16, 17, 32}) {
            verdictIsRefused(n, -1);
        }
    }

    static void promise24_describeVerdict_theFirstOfFewerThan16() {
        for (int n = 1; n < 16; n++) {
            is("the first of " + n, manyVerdicts(n).describeVerdict(n - 1), told(0));
        }
    }

    static void promise24_describeVerdict_behindTheFirstIsRefused() {
        for (int n = 1; n < 16; n++) {
            verdictIsRefused(n, n);
        }
    }

    static void promise24_describeVerdict_15Of15IsRefused() {
        verdictIsRefused(15, 15);
    }

    static void promise24_describeVerdict_15Of16IsTaken() {
        is("describeVerdict(15)", manyVerdicts(16).describeVerdict(15), told(0));
    }

    static void promise24_describeVerdict_15Of17IsTheSecond() {
        is("describeVerdict(15)", manyVerdicts(17).describeVerdict(15), told(1));
    }

    static void promise24_describeVerdict_16IsRefused() {
        for (int n : new int[] {16, 17, 18, 32, 33}) {
            verdictIsRefused(n, 16);
        }
    }

    static void promise24_describeVerdict_farOutIsRefused() {
        for (int far : FAR) {
            verdictIsRefused(3, far);
            verdictIsRefused(20, far);
        }
    }

    /** The kept ones wrap around at 16, 32 and 48: all of them are told right. */
    static void promise24_describeVerdict_allAroundTheWrapAround() {
        for (int n : new int[] {15, 16, 17, 31, 32, 33, 47, 48, 49}) {
            ScanDetector x = manyVerdicts(n);
            for (int back = 0; back < 16; back++) {
                is(n + " verdicts, describeVerdict(" + back + ")", x.describeVerdict(back),
                    back < n ? told(n - 1 - back) : NO_SUCH_VERDICT);
            }
        }
    }

    // "Returns 10 * c + v, where c is its cell and v is SCANNER or BENIGN"

    static void promise24_describeVerdict_theLeast() {
        ScanDetector x = configured(1, 1, 1, -1);
        x.connect(0, 0, false);
        is("describeVerdict(0)", x.describeVerdict(0), 1);
    }

    static void promise24_describeVerdict_theLargest() {
        ScanDetector x = configured(1, 1, 1, -1);
        x.connect(7, 0, true);
        is("describeVerdict(0)", x.describeVerdict(0), 72);
    }

    static void promise24_describeVerdict_tellsTheCellNotTheSource() {
        ScanDetector x = configured(1, 1, 1, -1);
        x.setCells(4);
        x.connect(7, 0, true);
        is("describeVerdict(0)", x.describeVerdict(0), 32);
    }

    static void promise24_describeVerdict_noneAfterAReset() {
        ScanDetector x = manyVerdicts(20);
        x.setCells(8);
        for (int back = 0; back < 16; back++) {
            is("describeVerdict(" + back + ")", x.describeVerdict(back), NO_SUCH_VERDICT);
        }
        x.connect(7, 0, true);
        is("describeVerdict(0)", x.describeVerdict(0), 72);
        is("describeVerdict(1)", x.describeVerdict(1), NO_SUCH_VERDICT);
    }

    static void promise24_describeVerdict_keptByUnblock() {
        ScanDetector x = withBlocked();
        x.unblock(5);
        is("describeVerdict(0)", x.describeVerdict(0), 51);
    }

    // ---- helpers

    private static void describeIsRefused(int index) {
        changesNothing("describeAttempt(" + index + ")", EdgeCases::busy, x -> x.describeAttempt(index), NO_SUCH_ATTEMPT);
    }

    private static void verdictIsRefused(int verdicts, int back) {
        changesNothing("describeVerdict(" + back + ") of " + verdicts, () -> manyVerdicts(verdicts),
            x -> x.describeVerdict(back), NO_SUCH_VERDICT);
    }

    /** So many verdicts, the n-th of them as told(n) says. */
    private static ScanDetector manyVerdicts(int count) {
        ScanDetector x = new ScanDetector();
        x.configure(1, 1, 1, -1);
        for (int n = 0; n < count; n++) {
            x.connect(n % 7, 0, n % 3 != 0);
            x.unblock(n % 7);
        }
        return x;
    }

    private static int told(int n) {
        return 10 * (n % 7) + (n % 3 != 0 ? BENIGN : SCANNER);
    }
}
