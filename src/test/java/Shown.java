import java.util.ArrayList;
import java.util.List;

/** What the calls on an object show of its state, a line for each call. */
final class Shown {
    private final ScanDetector x;
    private final List<String> lines = new ArrayList<>();

    private Shown(ScanDetector x) {
        this.x = x;
    }

    /** The answers of all calls that only ask, with arguments in their ranges and just outside. */
    static List<String> asked(ScanDetector x) {
        Shown shown = new Shown(x);
        shown.ask();
        return shown.lines;
    }

    /** The answers of all calls that only ask, then those of a run of calls that change the object. */
    static List<String> fromNowOn(ScanDetector x) {
        Shown shown = new Shown(x);
        shown.ask();
        shown.changeInput();
        shown.changeContacts();
        shown.changeSettings();
        return shown.lines;
    }

    private void tell(String call, long answer) {
        lines.add(call + " = " + answer);
    }

    private void ask() {
        tell("digest()", x.digest());
        for (int c = -1; c <= 8; c++) {
            tell("cellOf(" + c + ")", x.cellOf(c));
            tell("score(" + c + ")", x.score(c));
            tell("isBlocked(" + c + ")", x.isBlocked(c));
            tell("seenDestinations(" + c + ")", x.seenDestinations(c));
            tell("blockedContacts(" + c + ")", x.blockedContacts(c));
            tell("wronglyBlocked(" + c + ")", x.wronglyBlocked(c));
        }
        tell("attemptCount()", x.attemptCount());
        for (int i = -1; i <= 12; i++) {
            tell("describeAttempt(" + i + ")", x.describeAttempt(i));
        }
        tell("clock()", x.clock());
        tell("verdictCount()", x.verdictCount());
        for (int back = -1; back <= 16; back++) {
            tell("describeVerdict(" + back + ")", x.describeVerdict(back));
        }
        for (int verdict = 0; verdict <= 2; verdict++) {
            tell("countSequences(13, " + verdict + ")", x.countSequences(13, verdict));
        }
        tell("scannerProbability(35, 40)", x.scannerProbability(35, 40));
        tell("expectedContacts(35, 40)", x.expectedContacts(35, 40));
        tell("firstError()", x.firstError());
    }

    private void changeInput() {
        tell("append('5')", x.append('5'));
        tell("append('+')", x.append('+'));
        tell("firstError() then", x.firstError());
        tell("runInput()", x.runInput());
        tell("append('~')", x.append('~'));
        tell("digest() then", x.digest());
        tell("clearInput()", x.clearInput());
    }

    private void changeContacts() {
        for (int s = 0; s < 8; s++) {
            tell("attempt(" + s + ", " + (20 + s) + ")", x.attempt(s, 20 + s));
            tell("connect(" + s + ", " + (10 + s) + ")", x.connect(s, 10 + s, s % 3 == 0));
        }
        tell("describeAttempt(11) then", x.describeAttempt(11));
        tell("advance(1)", x.advance(1));
        for (int s = 0; s < 8; s += 2) {
            tell("answer(" + s + ", " + (20 + s) + ")", x.answer(s, 20 + s));
        }
        tell("digest() after contacts", x.digest());
        tell("advance(8)", x.advance(8));
        tell("advance(12)", x.advance(12));
        tell("digest() after ticks", x.digest());
        for (int c = 0; c < 8; c++) {
            tell("unblock(" + c + ")", x.unblock(c));
        }
    }

    private void changeSettings() {
        tell("setTimeout(2)", x.setTimeout(2));
        tell("attempt(4, 4)", x.attempt(4, 4));
        tell("digest() after a timeout", x.digest());
        tell("configure(2, 3, 9, -9)", x.configure(2, 3, 9, -9));
        tell("digest() after configure", x.digest());
        tell("setCells(3)", x.setCells(3));
        tell("digest() at the end", x.digest());
    }
}
