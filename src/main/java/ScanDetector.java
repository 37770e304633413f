import java.util.Arrays;

/**
 * A port scan detector by threshold random walk: a sequential hypothesis test on the outcomes of
 * first contacts. ../shared/DOC.md says what each method promises.
 */
public final class ScanDetector {
    public static final int UNDECIDED = 0, SCANNER = 1, BENIGN = 2, BLOCKED = 3, REPEATED = 4;
    public static final int BAD_CHARACTER = -101, BUFFER_FULL = -102, INVALID_INPUT = -103, OUT_OF_RANGE = -104, NO_SUCH_SOURCE = -105, NO_SUCH_DESTINATION = -106, NO_SUCH_CELL = -107, NO_SUCH_ATTEMPT = -108, NO_SUCH_VERDICT = -109, TOO_MANY_ATTEMPTS = -110, NOT_BLOCKED = -111;

    private static final int SOURCES = 8;
    private static final int DESTINATIONS = 32;
    private static final int MAX_CELLS = 8;
    private static final int MAX_STEP = 9;
    private static final int MAX_THRESHOLD = 60;
    private static final int MAX_TIMEOUT = 20;
    private static final int MAX_TICKS = 50;
    private static final int MAX_PENDING = 12;
    private static final int MAX_INPUT = 59;
    private static final int MAX_SEQUENCE = 20;
    private static final int MAX_CONTACTS = 60;
    private static final int KEPT_VERDICTS = 16;
    private static final int FIRST_CODE = 32;
    private static final int LAST_CODE = 126;
    /** Characters of a contact with the comma behind it. */
    private static final int CONTACT_LENGTH = 6;
    private static final int NONE = -1;

    private final Cell[] cells;
    private final Walk walk;
    private final PendingAttempts pending;
    private final VerdictLog verdicts;
    private final InputText input;
    private int cellCount;
    private int timeout;
    private int clock;

    public ScanDetector() {
        cells = new Cell[MAX_CELLS];
        for (int i = 0; i < cells.length; i++) {
            cells[i] = new Cell();
        }
        walk = new Walk();
        pending = new PendingAttempts();
        verdicts = new VerdictLog();
        input = new InputText();
        cellCount = MAX_CELLS;
        timeout = 3;
        clock = 0;
    }

    // ---- settings

    public int configure(int up, int down, int upper, int lower) {
        if (!within(up, 1, MAX_STEP) || !within(down, 1, MAX_STEP)) {
            return OUT_OF_RANGE;
        }
        if (!within(upper, 1, MAX_THRESHOLD) || !within(lower, -MAX_THRESHOLD, -1)) {
            return OUT_OF_RANGE;
        }
        walk.setParameters(up, down, upper, lower);
        reset();
        return cellCount;
    }

    public int setCells(int cells) {
        if (!within(cells, 1, MAX_CELLS)) {
            return OUT_OF_RANGE;
        }
        int previous = cellCount;
        cellCount = cells;
        reset();
        return previous;
    }

    public int setTimeout(int ticks) {
        if (!within(ticks, 1, MAX_TIMEOUT)) {
            return OUT_OF_RANGE;
        }
        int previous = timeout;
        timeout = ticks;
        return previous;
    }

    private void reset() {
        for (int i = 0; i < cells.length; i++) {
            cells[i].reset();
        }
        pending.count = 0;
        verdicts.count = 0;
        clock = 0;
    }

    // ---- contacts

    public int connect(int source, int destination, boolean success) {
        if (!sourceExists(source)) {
            return NO_SUCH_SOURCE;
        }
        if (!destinationExists(destination)) {
            return NO_SUCH_DESTINATION;
        }
        int index = cellIndex(source);
        Cell cell = cells[index];
        if (cell.blocked) {
            cell.stopConnect(success);
            return BLOCKED;
        }
        if (cell.hasSeen(destination)) {
            return REPEATED;
        }
        cell.see(destination);
        return settle(index, success);
    }

    public int attempt(int source, int destination) {
        if (!sourceExists(source)) {
            return NO_SUCH_SOURCE;
        }
        if (!destinationExists(destination)) {
            return NO_SUCH_DESTINATION;
        }
        Cell cell = cells[cellIndex(source)];
        if (cell.blocked) {
            cell.stopAttempt();
            return BLOCKED;
        }
        if (cell.hasSeen(destination)) {
            return REPEATED;
        }
        if (!pending.put(source, destination, clock + timeout)) {
            return TOO_MANY_ATTEMPTS;
        }
        cell.see(destination);
        return UNDECIDED;
    }

    public int answer(int source, int destination) {
        int index = pending.find(source, destination);
        if (index == NONE) {
            return NO_SUCH_ATTEMPT;
        }
        pending.drop(index);
        return settle(cellIndex(source), true);
    }

    public int advance(int ticks) {
        if (!within(ticks, 1, MAX_TICKS)) {
            return OUT_OF_RANGE;
        }
        int failed = 0;
        for (int i = 0; i < ticks; i++) {
            clock++;
            failed += failDueAttempts();
        }
        return failed;
    }

    /** Looks for the first due attempt anew after each failure, because a failure may discard others. */
    private int failDueAttempts() {
        int failed = 0;
        for (int i = 0; i < MAX_PENDING; i++) {
            int index = pending.firstDue(clock);
            if (index == NONE) {
                break;
            }
            int source = pending.sources[index];
            pending.drop(index);
            settle(cellIndex(source), false);
            failed++;
        }
        return failed;
    }

    public int unblock(int cell) {
        if (!cellExists(cell)) {
            return NO_SUCH_CELL;
        }
        Cell state = cells[cell];
        if (!state.blocked) {
            return NOT_BLOCKED;
        }
        int previous = state.score;
        state.blocked = false;
        state.forget();
        return previous;
    }

    /** Changes the score of a cell for an outcome and carries out the verdict that follows. */
    private int settle(int index, boolean success) {
        Cell cell = cells[index];
        cell.score = walk.after(cell.score, success);
        int verdict = walk.verdictAt(cell.score);
        if (verdict == UNDECIDED) {
            return verdict;
        }
        if (verdict == SCANNER) {
            cell.blocked = true;
            discardAttempts(index);
        } else {
            cell.forget();
        }
        verdicts.note(10 * index + verdict);
        return verdict;
    }

    private void discardAttempts(int index) {
        // from the last to the first, so that a removal moves none that is still to be looked at
        for (int i = pending.count - 1; i >= 0; i--) {
            if (cellIndex(pending.sources[i]) == index) {
                pending.drop(i);
            }
        }
    }

    // ---- input

    public int append(int code) {
        if (!within(code, FIRST_CODE, LAST_CODE)) {
            return BAD_CHARACTER;
        }
        if (!input.put(code)) {
            return BUFFER_FULL;
        }
        return input.length;
    }

    public int clearInput() {
        int previous = input.length;
        input.length = 0;
        return previous;
    }

    public int firstError() {
        return input.findError();
    }

    public int runInput() {
        if (!input.isComplete()) {
            return INVALID_INPUT;
        }
        int changes = 0;
        for (int i = 0; i + CONTACT_LENGTH - 1 <= input.length; i += CONTACT_LENGTH) {
            int outcome = connect(input.sourceAt(i), input.destinationAt(i), input.successAt(i));
            if (outcome != BLOCKED && outcome != REPEATED) {
                changes++;
            }
        }
        input.length = 0;
        return changes;
    }

    // ---- state of cells

    public int cellOf(int source) {
        return sourceExists(source) ? cellIndex(source) : NO_SUCH_SOURCE;
    }

    public int score(int cell) {
        return cellExists(cell) ? cells[cell].score : NO_SUCH_CELL;
    }

    public int isBlocked(int cell) {
        if (!cellExists(cell)) {
            return NO_SUCH_CELL;
        }
        return cells[cell].blocked ? 1 : 0;
    }

    public long seenDestinations(int cell) {
        return cellExists(cell) ? cells[cell].seen : NO_SUCH_CELL;
    }

    public int blockedContacts(int cell) {
        return cellExists(cell) ? cells[cell].stopped : NO_SUCH_CELL;
    }

    public int wronglyBlocked(int cell) {
        return cellExists(cell) ? cells[cell].wronglyStopped : NO_SUCH_CELL;
    }

    private boolean cellExists(int cell) {
        return within(cell, 0, cellCount - 1);
    }

    private static boolean sourceExists(int source) {
        return within(source, 0, SOURCES - 1);
    }

    private static boolean destinationExists(int destination) {
        return within(destination, 0, DESTINATIONS - 1);
    }

    private static boolean within(int value, int least, int most) {
        return value >= least && value <= most;
    }

    /** The cell of a source that exists. */
    private int cellIndex(int source) {
        // the number of cells is never 0; LANGUAGE.md rule 7 wants a divisor looked at all the same
        return cellCount > 0 ? source % cellCount : 0;
    }

    // ---- pending attempts, clock, verdicts

    public int attemptCount() {
        return pending.count;
    }

    public int describeAttempt(int index) {
        if (!within(index, 0, pending.count - 1)) {
            return NO_SUCH_ATTEMPT;
        }
        int left = pending.deadlines[index] - clock;
        return 1000 * left + 100 * pending.sources[index] + pending.destinations[index];
    }

    public int clock() {
        return clock;
    }

    public int verdictCount() {
        return verdicts.count;
    }

    public int describeVerdict(int back) {
        if (!within(back, 0, verdicts.kept() - 1)) {
            return NO_SUCH_VERDICT;
        }
        return verdicts.recall(back);
    }

    // ---- analysis of a single walk that starts at score 0

    public int countSequences(int contacts, int verdict) {
        if (!within(contacts, 0, MAX_SEQUENCE) || !within(verdict, UNDECIDED, BENIGN)) {
            return OUT_OF_RANGE;
        }
        return walk.sequencesWith(contacts, verdict);
    }

    public long scannerProbability(int percent, int contacts) {
        if (!within(percent, 0, 100) || !within(contacts, 0, MAX_CONTACTS)) {
            return OUT_OF_RANGE;
        }
        return bitsOf(walk.chanceOfScanner(percent / 100.0, contacts));
    }

    public long expectedContacts(int percent, int contacts) {
        if (!within(percent, 0, 100) || !within(contacts, 0, MAX_CONTACTS)) {
            return OUT_OF_RANGE;
        }
        return bitsOf(walk.meanContacts(percent / 100.0, contacts));
    }

    /**
     * What Double.doubleToLongBits answers, which LANGUAGE.md does not list. It serves 0.0 and the
     * normal positive numbers; a walk's results are 0.0 or between 1e-121 and 61.
     */
    private static long bitsOf(double value) {
        if (!(value > 0.0)) {
            return 0L;
        }
        double fraction = value;
        long exponent = 1023L;
        // halving and doubling a normal number are exact
        for (int i = 0; i < 1100 && fraction >= 2.0; i++) {
            fraction = fraction * 0.5;
            exponent++;
        }
        for (int i = 0; i < 1100 && fraction < 1.0; i++) {
            fraction = fraction * 2.0;
            exponent--;
        }
        // the fraction is now 1.0 to 2.0: its leading one is not stored
        long stored = (long) ((fraction - 1.0) * (double) (1L << 52));
        return (exponent << 52) + stored;
    }

    // ---- digest

    public long digest() {
        long hash = 1777L;
        hash = hashSettings(hash);
        hash = hashCells(hash);
        hash = hashAttempts(hash);
        hash = hashVerdicts(hash);
        hash = hashAnalysis(hash);
        return hashInput(hash);
    }

    private static long mix(long hash, long value) {
        return 31L * hash + value;
    }

    private long hashSettings(long start) {
        long hash = mix(start, cellCount);
        hash = mix(hash, walk.up);
        hash = mix(hash, walk.down);
        hash = mix(hash, walk.upper);
        hash = mix(hash, walk.lower);
        hash = mix(hash, timeout);
        return mix(hash, clock);
    }

    private long hashCells(long start) {
        long hash = start;
        for (int i = 0; i < cellCount; i++) {
            hash = mix(hash, score(i));
            hash = mix(hash, isBlocked(i));
            hash = mix(hash, seenDestinations(i));
            hash = mix(hash, blockedContacts(i));
            hash = mix(hash, wronglyBlocked(i));
        }
        return hash;
    }

    private long hashAttempts(long start) {
        long hash = mix(start, pending.count);
        for (int i = 0; i < pending.count; i++) {
            hash = mix(hash, describeAttempt(i));
        }
        return hash;
    }

    private long hashVerdicts(long start) {
        long hash = mix(start, verdicts.count);
        for (int i = 0; i < verdicts.kept(); i++) {
            hash = mix(hash, describeVerdict(i));
        }
        return hash;
    }

    private long hashAnalysis(long start) {
        long hash = mix(start, countSequences(10, SCANNER));
        hash = mix(hash, countSequences(10, BENIGN));
        hash = mix(hash, scannerProbability(20, 12));
        return mix(hash, expectedContacts(20, 12));
    }

    private long hashInput(long start) {
        long hash = mix(start, input.length);
        for (int i = 0; i < input.length; i++) {
            hash = mix(hash, input.codes[i]);
        }
        return hash;
    }

    /** What the detector keeps of the sources that share a cell. */
    private static final class Cell {
        private int score;
        private boolean blocked;
        /** Bit d stands for destination d. */
        private long seen;
        private int stopped;
        private int wronglyStopped;

        private void reset() {
            forget();
            blocked = false;
            stopped = 0;
            wronglyStopped = 0;
        }

        private void forget() {
            score = 0;
            seen = 0L;
        }

        private boolean hasSeen(int destination) {
            return (seen >> destination & 1L) != 0L;
        }

        private void see(int destination) {
            seen = seen | 1L << destination;
        }

        private void stopAttempt() {
            stopped++;
        }

        private void stopConnect(boolean success) {
            stopped++;
            if (success) {
                wronglyStopped++;
            }
        }
    }

    /** The pending attempts, in the order in which they began. */
    private static final class PendingAttempts {
        private final int[] sources;
        private final int[] destinations;
        private final int[] deadlines;
        private int count;

        private PendingAttempts() {
            sources = new int[MAX_PENDING];
            destinations = new int[MAX_PENDING];
            deadlines = new int[MAX_PENDING];
            count = 0;
        }

        /** Tells whether there was room for it. */
        private boolean put(int source, int destination, int deadline) {
            if (count >= MAX_PENDING) {
                return false;
            }
            sources[count] = source;
            destinations[count] = destination;
            deadlines[count] = deadline;
            count++;
            return true;
        }

        private int find(int source, int destination) {
            for (int i = 0; i < count; i++) {
                if (sources[i] == source && destinations[i] == destination) {
                    return i;
                }
            }
            return NONE;
        }

        private int firstDue(int time) {
            for (int i = 0; i < count; i++) {
                if (deadlines[i] == time) {
                    return i;
                }
            }
            return NONE;
        }

        private void drop(int index) {
            if (index < 0 || index >= count) {
                return;
            }
            count--;
            for (int i = index; i < count; i++) {
                sources[i] = sources[i + 1];
                destinations[i] = destinations[i + 1];
                deadlines[i] = deadlines[i + 1];
            }
        }
    }

    /** Counts the verdicts and keeps the latest of them, as describeVerdict tells them. */
    private static final class VerdictLog {
        private final int[] latest;
        private int count;

        private VerdictLog() {
            latest = new int[KEPT_VERDICTS];
            count = 0;
        }

        private void note(int verdict) {
            latest[Math.floorMod(count, KEPT_VERDICTS)] = verdict;
            count++;
        }

        private int kept() {
            return count < KEPT_VERDICTS ? count : KEPT_VERDICTS;
        }

        /** The verdict that so many came after, of those that are kept. */
        private int recall(int back) {
            return latest[Math.floorMod(count - 1 - back, KEPT_VERDICTS)];
        }
    }

    /** The input buffer and the syntax of its contacts. */
    private static final class InputText {
        private final int[] codes;
        private int length;

        private InputText() {
            codes = new int[MAX_INPUT];
            length = 0;
        }

        /** Tells whether there was room for it. */
        private boolean put(int code) {
            if (length >= MAX_INPUT) {
                return false;
            }
            codes[length] = code;
            length++;
            return true;
        }

        private int findError() {
            for (int i = 0; i < length; i++) {
                if (!fits(i)) {
                    return i;
                }
            }
            return length;
        }

        private boolean fits(int index) {
            int code = codes[index];
            switch (index % CONTACT_LENGTH) {
                case 0:
                    return within(code, '0', '7');
                case 1:
                    return code == '>';
                case 2:
                    return within(code, '0', '3');
                case 3:
                    return within(code, '0', codes[index - 1] == '3' ? '1' : '9');
                case 4:
                    return isOutcome(code);
                default:
                    return code == ',';
            }
        }

        private static boolean isOutcome(int code) {
            return code == '+' || code == '-';
        }

        private boolean isComplete() {
            return length > 0 && isOutcome(codes[length - 1]) && findError() == length;
        }

        // The three that follow read a contact of a complete input, from the index of its first character.

        private int sourceAt(int start) {
            return codes[start] - '0';
        }

        private int destinationAt(int start) {
            return 10 * (codes[start + 2] - '0') + codes[start + 3] - '0';
        }

        private boolean successAt(int start) {
            return codes[start + 4] == '+';
        }
    }

    /**
     * The random walk: its parameters, and the analysis of a walk that starts at score 0. In the
     * analysis, index i of a row stands for the score lower + 1 + i, so that the scores between the
     * thresholds are the indices from 0 to width - 1, and a step out of these is a verdict.
     */
    private static final class Walk {
        private static final int MAX_WIDTH = 2 * MAX_THRESHOLD - 1;

        private int up;
        private int down;
        private int upper;
        private int lower;
        private int width;
        // Rows made once and used by every call. The spare ones take the next contact's values.
        private int[] counts;
        private int[] spareCounts;
        private double[] chances;
        private double[] spareChances;

        private Walk() {
            counts = new int[MAX_WIDTH];
            spareCounts = new int[MAX_WIDTH];
            chances = new double[MAX_WIDTH];
            spareChances = new double[MAX_WIDTH];
            setParameters(3, 2, 12, -8);
        }

        private void setParameters(int newUp, int newDown, int newUpper, int newLower) {
            up = newUp;
            down = newDown;
            upper = newUpper;
            lower = newLower;
            width = newUpper - newLower - 1;
        }

        private int after(int score, boolean success) {
            return success ? score - down : score + up;
        }

        private int verdictAt(int score) {
            if (score >= upper) {
                return SCANNER;
            }
            return score <= lower ? BENIGN : UNDECIDED;
        }

        private int indexOfZero() {
            return -lower - 1;
        }

        private int sequencesWith(int contacts, int verdict) {
            Arrays.fill(counts, 0);
            counts[indexOfZero()] = 1;
            int scanner = 0;
            int benign = 0;
            for (int i = 0; i < contacts; i++) {
                // a sequence that is decided goes on in two ways, and stays decided
                scanner = 2 * scanner + sumOfCounts(width - up, width);
                benign = 2 * benign + sumOfCounts(0, down);
                stepCounts();
            }
            if (verdict == SCANNER) {
                return scanner;
            }
            return verdict == BENIGN ? benign : sumOfCounts(0, width);
        }

        /** The sum from one index to before another, as far as these are between the thresholds. */
        private int sumOfCounts(int from, int to) {
            int sum = 0;
            for (int i = Math.max(from, 0); i < Math.min(to, width); i++) {
                sum += counts[i];
            }
            return sum;
        }

        private void stepCounts() {
            int[] next = spareCounts;
            Arrays.fill(next, 0);
            for (int i = 0; i < width; i++) {
                if (i + up < width) {
                    next[i + up] += counts[i];
                }
                if (i - down >= 0) {
                    next[i - down] += counts[i];
                }
            }
            spareCounts = counts;
            counts = next;
        }

        private double chanceOfScanner(double success, int contacts) {
            startChances();
            double reached = 0.0;
            for (int i = 0; i < contacts; i++) {
                reached = stepChances(success, reached);
            }
            return reached;
        }

        private double meanContacts(double success, int contacts) {
            startChances();
            double expected = 0.0;
            for (int i = 0; i < contacts; i++) {
                expected += sumOfChances();
                stepChances(success, 0.0);
            }
            return expected;
        }

        private void startChances() {
            Arrays.fill(chances, 0.0);
            chances[indexOfZero()] = 1.0;
        }

        private double sumOfChances() {
            double sum = 0.0;
            for (int i = 0; i < width; i++) {
                sum += chances[i];
            }
            return sum;
        }

        /**
         * Takes the chances one contact on. Answers the chance of the verdict SCANNER so far, which
         * goes in and out because the document fixes the order in which its parts are added.
         */
        private double stepChances(double success, double reachedBefore) {
            double failure = 1.0 - success;
            double reached = reachedBefore;
            double[] next = spareChances;
            Arrays.fill(next, 0.0);
            for (int i = 0; i < width; i++) {
                if (i + up >= width) {
                    reached += chances[i] * failure;
                } else {
                    next[i + up] += chances[i] * failure;
                }
                if (i - down >= 0) {
                    next[i - down] += chances[i] * success;
                }
            }
            spareChances = chances;
            chances = next;
            return reached;
        }
    }
}
