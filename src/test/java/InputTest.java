/** Promises 10 to 13: append, clearInput, firstError, runInput. */
public final class InputTest {
    private static final Due DUE = new Due();

    public static void main(String[] args) {
        appendCodes();
        appendLimit();
        clearing();
        errorAtEachPlace();
        errorsOfTexts();
        runs();
        runsAsConnect();
        runOfTen();
        DUE.end();
    }

    private static void appendCodes() {
        ScanDetector x = new ScanDetector();
        long before = x.digest();
        for (int code : new int[] {31, 127, 0, -1, 10, 128, 256 + 48, 65536 + 48, Integer.MIN_VALUE, Integer.MAX_VALUE}) {
            DUE.is("append(" + code + ")", x.append(code), -101);
        }
        DUE.is("bad characters change nothing", x.digest(), before);
        DUE.is("append(32)", x.append(32), 1);
        DUE.is("append(126)", x.append(126), 2);
        DUE.is("clearInput()", x.clearInput(), 2);
        for (int code = 32; code <= 90; code++) {
            DUE.is("append(" + code + ")", x.append(code), code - 31);
        }
    }

    private static void appendLimit() {
        ScanDetector x = new ScanDetector();
        for (int i = 1; i <= 59; i++) {
            DUE.is("character " + i, x.append('0'), i);
        }
        long before = x.digest();
        DUE.is("a sixtieth", x.append('0'), -102);
        DUE.is("a bad one, though full", x.append(127), -101);
        DUE.is("a bad one, though full", x.append(31), -101);
        DUE.is("full: nothing changes", x.digest(), before);
        DUE.is("clearInput()", x.clearInput(), 59);
        DUE.is("room again", x.append('0'), 1);
    }

    private static void clearing() {
        ScanDetector x = new ScanDetector();
        DUE.is("nothing to clear", x.clearInput(), 0);
        DUE.type(x, "3>07-");
        DUE.is("clearInput()", x.clearInput(), 5);
        DUE.is("clearInput() again", x.clearInput(), 0);
        DUE.is("an empty buffer is not complete", x.runInput(), -103);
        DUE.is("firstError() of nothing", x.firstError(), 0);
    }

    /** Tries each character at each place of the second contact of a text that is right up to there. */
    private static void errorAtEachPlace() {
        ScanDetector x = null;
        String[] prefixes = {"3>07-,", "3>07-,2", "3>07-,2>", "3>07-,2>2", "3>07-,2>3", "3>07-,2>15", "3>07-,2>15+"};
        String[] allowed = {"01234567", ">", "0123", "0123456789", "01", "+-", ","};
        for (int k = 0; k < prefixes.length; k++) {
            for (char c = 32; c <= 126; c++) {
                if (c % 32 == 0) {
                    x = new ScanDetector(); // an object is promised for 512 calls
                }
                x.clearInput();
                DUE.type(x, prefixes[k] + c);
                int want = prefixes[k].length() + (allowed[k].indexOf(c) >= 0 ? 1 : 0);
                DUE.is("firstError() of " + prefixes[k] + c, x.firstError(), want);
            }
        }
    }

    private static void errorsOfTexts() {
        String[] texts = {"8>00+", "3-07-", "3>40-", "3>32-", "3>39+", "3>0a-", "3>07*", "3>07-;", "3>07-,,", " 3>07-", "3>", ">>>"};
        int[] first = {0, 1, 2, 3, 3, 3, 4, 5, 6, 0, 2, 0};
        for (int i = 0; i < texts.length; i++) {
            ScanDetector x = new ScanDetector();
            DUE.type(x, texts[i]);
            DUE.is("firstError() of " + texts[i], x.firstError(), first[i]);
            long before = x.digest();
            DUE.is("runInput() of " + texts[i], x.runInput(), -103);
            DUE.is("runInput() of " + texts[i] + " changes nothing", x.digest(), before);
        }
        // an error in the last contact keeps the first ones from being made
        ScanDetector x = new ScanDetector();
        DUE.type(x, "0>01-,0>02-,0>3");
        DUE.is("not complete", x.runInput(), -103);
        DUE.is("no contact made", x.score(0), 0);
        DUE.is("no error so far", x.firstError(), 15);
        DUE.type(x, "1-");
        DUE.is("now complete", x.runInput(), 3);
        DUE.is("its score", x.score(0), 9);
        DUE.is("its destinations", x.seenDestinations(0), 6L | 1L << 31);
        // a last character '+' or '-' at a wrong place
        DUE.type(x, "3>07-,+");
        DUE.is("a plus at a wrong place", x.runInput(), -103);
        DUE.is("its error", x.firstError(), 6);
    }

    private static void runs() {
        ScanDetector x = new ScanDetector();
        DUE.type(x, "3>07-,3>31+");
        DUE.is("runInput()", x.runInput(), 2);
        DUE.is("score(3)", x.score(3), 1);
        DUE.is("seenDestinations(3)", x.seenDestinations(3), 1L << 7 | 1L << 31);
        DUE.is("the buffer is cleared", x.clearInput(), 0);
        DUE.type(x, "0>00+,7>19+,5>29-,7>19-,7>20-,7>20+");
        DUE.is("repeated ones are not counted", x.runInput(), 4);
        DUE.is("score(0)", x.score(0), -2);
        DUE.is("score(5)", x.score(5), 3);
        DUE.is("score(7)", x.score(7), 1);
    }

    private static void runsAsConnect() {
        ScanDetector x = new ScanDetector();
        DUE.type(x, "1>00-,1>01-,1>02-,1>03-,1>04-,1>05+,1>00+,1>06-");
        DUE.is("blocked ones are not counted", x.runInput(), 4);
        DUE.is("isBlocked(1)", x.isBlocked(1), 1);
        DUE.is("blockedContacts(1)", x.blockedContacts(1), 4);
        DUE.is("wronglyBlocked(1)", x.wronglyBlocked(1), 2);
        DUE.is("describeVerdict(0)", x.describeVerdict(0), 11);
        DUE.type(x, "1>00-");
        DUE.is("nothing changes a score", x.runInput(), 0);
        // a verdict BENIGN in the middle makes a destination new again
        DUE.type(x, "2>00+,2>01+,2>02+,2>03+,2>00+");
        DUE.is("benign in the middle", x.runInput(), 5);
        DUE.is("score(2)", x.score(2), -2);
        // a verdict SCANNER discards what pends
        x.attempt(4, 0);
        DUE.type(x, "4>01-,4>02-,4>03-,4>04-");
        DUE.is("a scanner", x.runInput(), 4);
        DUE.is("attemptCount()", x.attemptCount(), 0);
    }

    private static void runOfTen() {
        ScanDetector x = new ScanDetector();
        String ten = "0>10-,1>11-,2>12-,3>13-,4>14-,5>15-,6>16-,7>17-,0>30+,1>31+";
        DUE.type(x, ten);
        DUE.is("firstError() of a full buffer", x.firstError(), 59);
        DUE.is("a full buffer", x.runInput(), 10);
        DUE.is("score(0)", x.score(0), 1);
        DUE.is("score(7)", x.score(7), 3);
        DUE.is("seenDestinations(1)", x.seenDestinations(1), 1L << 11 | 1L << 31);
    }
}
