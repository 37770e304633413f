/** The edges of promises 25 to 27: countSequences, scannerProbability, expectedContacts. */
public final class AnalysisEdgesTest extends EdgeCases {
    public static void main(String[] args) {
        run(AnalysisEdgesTest.class, 25, 27);
    }

    // ---- 25: "contacts: the length of the sequences, 0 to 20"; "verdict: UNDECIDED, SCANNER or BENIGN"

    static void promise25_countSequences_0ContactsAreTaken() {
        counts(new ScanDetector(), 0, 1, 0, 0);
        counts(configured(9, 9, 1, -1), 0, 1, 0, 0);
        counts(configured(1, 1, 60, -60), 0, 1, 0, 0);
    }

    static void promise25_countSequences_1ContactIsTaken() {
        counts(configured(1, 1, 1, -1), 1, 0, 1, 1);
        counts(configured(1, 1, 2, -2), 1, 2, 0, 0);
    }

    static void promise25_countSequences_20ContactsAreTaken() {
        counts(configured(1, 1, 1, -1), 20, 0, 524288, 524288);
        counts(configured(1, 1, 60, -60), 20, 1048576, 0, 0);
    }

    static void promise25_countSequences_minus1ContactsAreRefused() {
        for (int verdict = 0; verdict <= 2; verdict++) {
            countIsRefused(-1, verdict);
        }
    }

    static void promise25_countSequences_21ContactsAreRefused() {
        for (int verdict = 0; verdict <= 2; verdict++) {
            countIsRefused(21, verdict);
        }
    }

    static void promise25_countSequences_contactsFarOutAreRefused() {
        for (int far : FAR) {
            countIsRefused(far, SCANNER);
        }
    }

    static void promise25_countSequences_verdictMinus1IsRefused() {
        countIsRefused(0, -1);
        countIsRefused(20, -1);
    }

    static void promise25_countSequences_verdict3IsRefused() {
        countIsRefused(0, BLOCKED);
        countIsRefused(20, BLOCKED);
    }

    static void promise25_countSequences_verdict4IsRefused() {
        countIsRefused(5, REPEATED);
    }

    static void promise25_countSequences_verdictFarOutIsRefused() {
        for (int far : FAR) {
            countIsRefused(5, far);
        }
    }

    static void promise25_countSequences_bothWrongAreRefused() {
        countIsRefused(-1, -1);
        countIsRefused(21, 3);
    }

    static void promise25_countSequences_changesNothing() {
        changesNothing("countSequences(20, 0)", EdgeCases::busy, x -> x.countSequences(20, 0) >= 0 ? 1 : 0, 1);
    }

    // "after all contacts or earlier"

    static void promise25_countSequences_scannerAtTheLastContact() {
        ScanDetector x = configured(1, 1, 20, -60);
        counts(x, 19, 524288, 0, 0);
        counts(x, 20, 1048575, 1, 0);
    }

    static void promise25_countSequences_benignAtTheLastContact() {
        ScanDetector x = configured(1, 1, 60, -20);
        counts(x, 19, 524288, 0, 0);
        counts(x, 20, 1048575, 0, 1);
    }

    static void promise25_countSequences_aThresholdOneTooFar() {
        counts(configured(1, 1, 21, -21), 20, 1048576, 0, 0);
    }

    // "each sequence counts once, whatever follows the verdict"

    static void promise25_countSequences_whateverFollowsTheVerdict() {
        ScanDetector x = configured(1, 1, 2, -2);
        counts(x, 2, 2, 1, 1);
        counts(x, 3, 4, 2, 2);
        counts(x, 4, 4, 6, 6);
    }

    static void promise25_countSequences_aWalkStopsAtItsFirstVerdict() {
        ScanDetector x = configured(9, 1, 1, -1); // the first contact decides
        counts(x, 5, 0, 16, 16);
    }

    static void promise25_countSequences_allTogether() {
        int[][] settings = {{1, 1, 1, -1}, {9, 9, 60, -60}, {9, 1, 60, -1}, {1, 9, 1, -60}, {3, 2, 12, -8}};
        for (int[] s : settings) {
            ScanDetector x = configured(s[0], s[1], s[2], s[3]);
            for (int n = 0; n <= 20; n++) {
                is("all of " + n, x.countSequences(n, 0) + x.countSequences(n, 1) + x.countSequences(n, 2), 1 << n);
            }
        }
    }

    // the thresholds: exactly, and one to each side

    static void promise25_countSequences_aroundTheUpperThreshold() {
        counts(configured(3, 1, 5, -60), 2, 3, 1, 0);
        counts(configured(3, 1, 6, -60), 2, 3, 1, 0);
        counts(configured(3, 1, 7, -60), 2, 4, 0, 0);
        counts(configured(3, 1, 3, -60), 1, 1, 1, 0);
        counts(configured(3, 1, 4, -60), 1, 2, 0, 0);
    }

    static void promise25_countSequences_aroundTheLowerThreshold() {
        counts(configured(1, 3, 60, -5), 2, 3, 0, 1);
        counts(configured(1, 3, 60, -6), 2, 3, 0, 1);
        counts(configured(1, 3, 60, -7), 2, 4, 0, 0);
        counts(configured(1, 3, 60, -3), 1, 1, 0, 1);
        counts(configured(1, 3, 60, -4), 1, 2, 0, 0);
    }

    static void promise25_countSequences_theLargestStepsAtTheWidestThresholds() {
        // seven more of one kind than of the other: at the 7th contact 1 sequence, at the 9th 7 more
        counts(configured(9, 9, 60, -60), 10, 1024 - 44, 22, 22);
    }

    static void promise25_countSequences_theLargestStepsAtTheNarrowestThresholds() {
        counts(configured(9, 9, 1, -1), 10, 0, 512, 512);
    }

    static void promise25_countSequences_startsAtScore0WhateverTheCells() {
        ScanDetector x = configured(1, 1, 2, -2);
        x.connect(0, 0, false);
        walk(x, 1, 0, "--");
        counts(x, 4, 4, 6, 6);
    }

    // ---- 26: "percent: .. 0 to 100"; "contacts: .. 0 to 60"

    static void promise26_scannerProbability_percent0IsTaken() {
        chance(new ScanDetector(), 0, 60, 1.0);
    }

    static void promise26_scannerProbability_percent100IsTaken() {
        chance(new ScanDetector(), 100, 60, 0.0);
    }

    static void promise26_scannerProbability_percent1And99AreTaken() {
        ScanDetector x = configured(1, 1, 1, -1);
        chance(x, 1, 60, 1.0 - 1 / 100.0);
        chance(x, 99, 60, 1.0 - 99 / 100.0);
    }

    static void promise26_scannerProbability_percentMinus1IsRefused() {
        chanceIsRefused(-1, 0);
        chanceIsRefused(-1, 60);
    }

    static void promise26_scannerProbability_percent101IsRefused() {
        chanceIsRefused(101, 0);
        chanceIsRefused(101, 60);
    }

    static void promise26_scannerProbability_percentFarOutIsRefused() {
        for (int far : FAR) {
            chanceIsRefused(far, 5);
        }
    }

    static void promise26_scannerProbability_0ContactsAreTaken() {
        for (int percent : new int[] {0, 50, 100}) {
            chance(configured(9, 9, 1, -1), percent, 0, 0.0);
        }
    }

    static void promise26_scannerProbability_60ContactsAreTaken() {
        ScanDetector x = configured(1, 1, 60, -60);
        chance(x, 0, 59, 0.0);
        chance(x, 0, 60, 1.0);
        chance(x, 50, 60, Math.scalb(1.0, -60));
    }

    static void promise26_scannerProbability_minus1ContactsAreRefused() {
        chanceIsRefused(0, -1);
        chanceIsRefused(100, -1);
    }

    static void promise26_scannerProbability_61ContactsAreRefused() {
        chanceIsRefused(0, 61);
        chanceIsRefused(100, 61);
    }

    static void promise26_scannerProbability_contactsFarOutAreRefused() {
        for (int far : FAR) {
            chanceIsRefused(50, far);
        }
    }

    static void promise26_scannerProbability_bothWrongAreRefused() {
        chanceIsRefused(-1, -1);
        chanceIsRefused(101, 61);
    }

    static void promise26_scannerProbability_changesNothing() {
        long bits = Double.doubleToLongBits(1.0);
        changesNothing("scannerProbability(0, 60)", EdgeCases::busy, x -> x.scannerProbability(0, 60), bits);
    }

    /** About 1e-120: the smallest chance that is not 0. */
    static void promise26_scannerProbability_theSmallest() {
        double q = 1.0 - 99 / 100.0;
        double product = 1.0;
        for (int i = 0; i < 60; i++) {
            product = product * q;
        }
        ScanDetector x = configured(1, 1, 60, -60);
        chance(x, 99, 60, product);
        is("it is not 0", product > 0.0 ? 1 : 0, 1);
    }

    // "if s + up is at least the upper threshold, r increases"

    static void promise26_scannerProbability_aroundTheUpperThreshold() {
        chance(configured(3, 1, 2, -60), 50, 1, 0.5);
        chance(configured(3, 1, 3, -60), 50, 1, 0.5);
        chance(configured(3, 1, 4, -60), 50, 1, 0.0);
        chance(configured(3, 1, 4, -60), 50, 2, 0.25);
        chance(configured(3, 1, 6, -60), 50, 2, 0.25);
        chance(configured(3, 1, 7, -60), 50, 2, 0.0);
    }

    // "if s - down is greater than the lower threshold, the new array increases"

    static void promise26_scannerProbability_aroundTheLowerThreshold() {
        // a success and then two failures lead to 2 - 1 = 1 only if the success has not ended the walk
        chance(configured(1, 1, 1, -1), 50, 3, 0.5);
        chance(configured(1, 1, 1, -2), 50, 3, 0.5 + 0.125);
        chance(configured(1, 2, 1, -2), 50, 4, 0.5);
        chance(configured(1, 2, 1, -3), 50, 4, 0.5 + 0.0625);
        chance(configured(1, 2, 1, -1), 50, 4, 0.5);
    }

    static void promise26_scannerProbability_theNarrowestThresholds() {
        ScanDetector x = configured(9, 9, 1, -1);
        chance(x, 25, 1, 0.75);
        chance(x, 25, 60, 0.75);
    }

    static void promise26_scannerProbability_theWidestThresholds() {
        ScanDetector x = configured(9, 9, 60, -60);
        chance(x, 0, 6, 0.0);
        chance(x, 0, 7, 1.0);
        chance(x, 50, 7, 0.0078125);
        chance(x, 50, 9, 0.0078125 + 7 / 512.0);
    }

    static void promise26_scannerProbability_startsAtScore0WhateverTheCells() {
        ScanDetector x = configured(1, 1, 2, -2);
        x.connect(0, 0, false);
        walk(x, 1, 0, "--");
        chance(x, 50, 4, 0.375);
    }

    // ---- 27: the same ranges

    static void promise27_expectedContacts_percent0IsTaken() {
        expected(new ScanDetector(), 0, 60, 4.0);
    }

    static void promise27_expectedContacts_percent100IsTaken() {
        expected(new ScanDetector(), 100, 60, 4.0);
    }

    static void promise27_expectedContacts_percent1And99AreTaken() {
        ScanDetector x = configured(1, 1, 1, -1);
        expected(x, 1, 60, 1.0);
        expected(x, 99, 60, 1.0);
        x = configured(1, 1, 2, -1);
        expected(x, 1, 2, 1.0 + (1.0 - 1 / 100.0));
        expected(x, 99, 2, 1.0 + (1.0 - 99 / 100.0));
    }

    static void promise27_expectedContacts_percentMinus1IsRefused() {
        expectedIsRefused(-1, 0);
        expectedIsRefused(-1, 60);
    }

    static void promise27_expectedContacts_percent101IsRefused() {
        expectedIsRefused(101, 0);
        expectedIsRefused(101, 60);
    }

    static void promise27_expectedContacts_percentFarOutIsRefused() {
        for (int far : FAR) {
            expectedIsRefused(far, 5);
        }
    }

    static void promise27_expectedContacts_0ContactsAreTaken() {
        for (int percent : new int[] {0, 50, 100}) {
            expected(new ScanDetector(), percent, 0, 0.0);
        }
    }

    static void promise27_expectedContacts_1ContactIsTaken() {
        for (int percent : new int[] {0, 37, 100}) {
            expected(configured(9, 9, 1, -1), percent, 1, 1.0);
        }
    }

    static void promise27_expectedContacts_60ContactsAreTaken() {
        ScanDetector x = configured(1, 1, 60, -60);
        expected(x, 0, 59, 59.0);
        expected(x, 0, 60, 60.0);
        expected(x, 50, 60, 60.0);
        expected(x, 100, 60, 60.0);
    }

    static void promise27_expectedContacts_minus1ContactsAreRefused() {
        expectedIsRefused(0, -1);
        expectedIsRefused(100, -1);
    }

    static void promise27_expectedContacts_61ContactsAreRefused() {
        expectedIsRefused(0, 61);
        expectedIsRefused(100, 61);
    }

    static void promise27_expectedContacts_contactsFarOutAreRefused() {
        for (int far : FAR) {
            expectedIsRefused(50, far);
        }
    }

    static void promise27_expectedContacts_bothWrongAreRefused() {
        expectedIsRefused(-1, -1);
        expectedIsRefused(101, 61);
    }

    static void promise27_expectedContacts_changesNothing() {
        long bits = Double.doubleToLongBits(3.0);
        changesNothing("expectedContacts(0, 60)", EdgeCases::busy, x -> x.expectedContacts(0, 60), bits);
    }

    // "before the new array is computed, e increases by the sum of the current array"

    static void promise27_expectedContacts_theContactOfTheVerdictCounts() {
        ScanDetector x = configured(1, 1, 2, -2);
        expected(x, 50, 1, 1.0);
        expected(x, 50, 2, 2.0);
        expected(x, 50, 3, 2.5);
        expected(x, 50, 4, 3.0);
        expected(x, 50, 5, 3.25);
    }

    static void promise27_expectedContacts_aroundTheUpperThreshold() {
        expected(configured(3, 1, 2, -60), 0, 60, 1.0);
        expected(configured(3, 1, 3, -60), 0, 60, 1.0);
        expected(configured(3, 1, 4, -60), 0, 60, 2.0);
        expected(configured(3, 1, 6, -60), 0, 60, 2.0);
        expected(configured(3, 1, 7, -60), 0, 60, 3.0);
    }

    static void promise27_expectedContacts_aroundTheLowerThreshold() {
        expected(configured(1, 3, 60, -2), 100, 60, 1.0);
        expected(configured(1, 3, 60, -3), 100, 60, 1.0);
        expected(configured(1, 3, 60, -4), 100, 60, 2.0);
        expected(configured(1, 3, 60, -6), 100, 60, 2.0);
        expected(configured(1, 3, 60, -7), 100, 60, 3.0);
    }

    static void promise27_expectedContacts_startsAtScore0WhateverTheCells() {
        ScanDetector x = configured(1, 1, 2, -2);
        x.connect(0, 0, false);
        walk(x, 1, 0, "--");
        expected(x, 50, 4, 3.0);
    }

    /** Each of the two leaves its rows behind: a shorter or a wider question after them is answered as if it were the first. */
    static void promise27_expectedContacts_noCallIsInfluencedByAnother() {
        ScanDetector x = configured(1, 1, 60, -60);
        x.expectedContacts(50, 60);
        x.scannerProbability(50, 60);
        x.countSequences(20, 0);
        x.configure(1, 1, 2, -2);
        expected(x, 50, 5, 3.25);
        chance(x, 50, 4, 0.375);
        counts(x, 4, 4, 6, 6);
        x.configure(1, 1, 60, -60);
        expected(x, 50, 60, 60.0);
        chance(x, 50, 60, Math.scalb(1.0, -60));
        counts(x, 20, 1048576, 0, 0);
    }

    // ---- helpers

    private static void counts(ScanDetector x, int contacts, int undecided, int scanner, int benign) {
        is("countSequences(" + contacts + ", 0)", x.countSequences(contacts, 0), undecided);
        is("countSequences(" + contacts + ", 1)", x.countSequences(contacts, 1), scanner);
        is("countSequences(" + contacts + ", 2)", x.countSequences(contacts, 2), benign);
    }

    private static void chance(ScanDetector x, int percent, int contacts, double want) {
        is("scannerProbability(" + percent + ", " + contacts + ")", x.scannerProbability(percent, contacts),
            Double.doubleToLongBits(want));
    }

    private static void expected(ScanDetector x, int percent, int contacts, double want) {
        is("expectedContacts(" + percent + ", " + contacts + ")", x.expectedContacts(percent, contacts),
            Double.doubleToLongBits(want));
    }

    private static void countIsRefused(int contacts, int verdict) {
        changesNothing("countSequences(" + contacts + ", " + verdict + ")", EdgeCases::busy,
            x -> x.countSequences(contacts, verdict), OUT_OF_RANGE);
    }

    private static void chanceIsRefused(int percent, int contacts) {
        changesNothing("scannerProbability(" + percent + ", " + contacts + ")", EdgeCases::busy,
            x -> x.scannerProbability(percent, contacts), OUT_OF_RANGE);
    }

    private static void expectedIsRefused(int percent, int contacts) {
        changesNothing("expectedContacts(" + percent + ", " + contacts + ")", EdgeCases::busy,
            x -> x.expectedContacts(percent, contacts), OUT_OF_RANGE);
    }
}
