import java.util.Random;

/** Long runs of drawn calls, with a fixed seed, on the class and on the model: every answer is the same. */
public final class ModelTest {
    private static final int RUNS = 2000;
    /** A run ends once it has so many calls; one step more (a whole input typed) keeps it under the 512 promised. */
    private static final int CALLS = 440;
    private static final int[] WILD = {
        Integer.MIN_VALUE, Integer.MIN_VALUE + 1, -61, -60, -1, 0, 1, 7, 8, 9, 10, 12, 15, 16, 20, 21, 31, 32, 50,
        51, 59, 60, 61, 100, 101, 126, 127, Integer.MAX_VALUE - 1, Integer.MAX_VALUE
    };

    private final Random random;
    private final ScanDetector x = new ScanDetector();
    private final Model m = new Model();
    private final Due due;
    private final int run;
    private final int mood; // what this run does much of
    private int calls = 0;
    private String text = ""; // what the input method is typing now

    private ModelTest(Due due, int run) {
        this.due = due;
        this.run = run;
        this.random = new Random(7919L * run + 13);
        this.mood = random.nextInt(4);
    }

    public static void main(String[] args) {
        Due due = new Due();
        for (int run = 0; run < RUNS && due.wrongSoFar() < 20; run++) {
            new ModelTest(due, run).play();
        }
        due.end();
    }

    private void play() {
        if (random.nextInt(3) > 0) {
            drawSettings();
        }
        for (int i = 0; calls < CALLS && due.wrongSoFar() < 20; i++) {
            call();
            if (i % 16 == 0) {
                same("digest()", x.digest(), m.digest());
            }
        }
        same("digest()", x.digest(), m.digest());
    }

    private void same(String call, long got, long want) {
        calls++;
        due.is("run " + run + ", call " + calls + ": " + call, got, want);
    }

    private int draw(int least, int most) {
        if (random.nextInt(40) == 0) {
            return WILD[random.nextInt(WILD.length)];
        }
        return least + random.nextInt(most - least + 1);
    }

    private void drawSettings() {
        int n = draw(1, 8);
        same("setCells(" + n + ")", x.setCells(n), m.setCells(n));
        boolean wide = random.nextBoolean();
        int up = draw(1, wide ? 9 : 4);
        int down = draw(1, wide ? 9 : 4);
        int upper = draw(1, wide ? 60 : 14);
        int lower = draw(wide ? -60 : -12, -1);
        same("configure(" + up + ", " + down + ", " + upper + ", " + lower + ")",
            x.configure(up, down, upper, lower), m.configure(up, down, upper, lower));
        drawTimeout();
    }

    private void drawTimeout() {
        int ticks = draw(1, 20);
        same("setTimeout(" + ticks + ")", x.setTimeout(ticks), m.setTimeout(ticks));
    }

    private void call() {
        int kind = random.nextInt(100);
        if (kind < 55) {
            change();
        } else if (kind < 70) {
            type();
        } else if (kind < 98) {
            ask();
        } else if (random.nextInt(4) == 0) {
            drawSettings();
        } else {
            drawTimeout();
        }
    }

    private void change() {
        int s = draw(0, 7);
        int d = draw(0, 31);
        switch (mood == 0 ? random.nextInt(6) : random.nextInt(10)) {
            case 0, 1, 2 -> {
                boolean success = random.nextInt(4) < mood;
                same("connect(" + s + ", " + d + ", " + success + ")", x.connect(s, d, success), m.connect(s, d, success));
            }
            case 3, 4, 5, 6 -> same("attempt(" + s + ", " + d + ")", x.attempt(s, d), m.attempt(s, d));
            case 7 -> answer(s, d);
            case 8 -> {
                int ticks = random.nextInt(8) == 0 ? draw(1, 50) : draw(1, 3);
                same("advance(" + ticks + ")", x.advance(ticks), m.advance(ticks));
            }
            default -> {
                int c = draw(0, 7);
                same("unblock(" + c + ")", x.unblock(c), m.unblock(c));
            }
        }
    }

    /** Answers a pending attempt where there is one, most of the time. */
    private void answer(int s, int d) {
        int n = m.attemptCount();
        if (n > 0 && random.nextInt(8) > 0) {
            int described = m.describeAttempt(random.nextInt(n)) % 1000;
            s = described / 100;
            d = described % 100;
        }
        same("answer(" + s + ", " + d + ")", x.answer(s, d), m.answer(s, d));
    }

    private void type() {
        switch (random.nextInt(30)) {
            case 0 -> same("clearInput()", x.clearInput(), m.clearInput());
            case 1 -> typeAll();
            case 2 -> same("runInput()", x.runInput(), m.runInput());
            case 3 -> same("firstError()", x.firstError(), m.firstError());
            case 4 -> appendBoth(draw(32, 126));
            default -> {
                if (text.isEmpty()) {
                    text = drawText();
                }
                appendBoth(text.charAt(0));
                text = text.substring(1);
            }
        }
    }

    private void appendBoth(int code) {
        same("append(" + code + ")", x.append(code), m.append(code));
    }

    /** A whole input, right or with one character changed, and then its run. */
    private void typeAll() {
        same("clearInput()", x.clearInput(), m.clearInput());
        String all = drawText();
        for (int i = 0; i < all.length(); i++) {
            appendBoth(random.nextInt(150) == 0 ? draw(32, 126) : all.charAt(i));
        }
        same("firstError()", x.firstError(), m.firstError());
        same("runInput()", x.runInput(), m.runInput());
        same("firstError()", x.firstError(), m.firstError());
    }

    private String drawText() {
        int n = 1 + random.nextInt(10);
        StringBuilder all = new StringBuilder();
        for (int i = 0; i < n; i++) {
            int d = random.nextInt(32);
            all.append(i == 0 ? "" : ",").append(random.nextInt(8)).append('>');
            all.append(d / 10).append(d % 10).append(random.nextBoolean() ? '+' : '-');
        }
        return all.toString();
    }

    private void ask() {
        int c = draw(0, 7);
        int back = draw(0, 15);
        switch (random.nextInt(16)) {
            case 0 -> same("cellOf(" + c + ")", x.cellOf(c), m.cellOf(c));
            case 1 -> same("score(" + c + ")", x.score(c), m.score(c));
            case 2 -> same("isBlocked(" + c + ")", x.isBlocked(c), m.isBlocked(c));
            case 3 -> same("seenDestinations(" + c + ")", x.seenDestinations(c), m.seenDestinations(c));
            case 4 -> same("blockedContacts(" + c + ")", x.blockedContacts(c), m.blockedContacts(c));
            case 5 -> same("wronglyBlocked(" + c + ")", x.wronglyBlocked(c), m.wronglyBlocked(c));
            case 6 -> same("attemptCount()", x.attemptCount(), m.attemptCount());
            case 7, 8 -> same("describeAttempt(" + back + ")", x.describeAttempt(back), m.describeAttempt(back));
            case 9 -> same("clock()", x.clock(), m.clock());
            case 10 -> same("verdictCount()", x.verdictCount(), m.verdictCount());
            case 11, 12 -> same("describeVerdict(" + back + ")", x.describeVerdict(back), m.describeVerdict(back));
            default -> analyse();
        }
    }

    private void analyse() {
        int percent = draw(0, 100);
        int contacts = draw(0, 60);
        int length = random.nextInt(100) == 0 ? draw(0, 20) : draw(0, 10);
        int verdict = draw(0, 2);
        same("countSequences(" + length + ", " + verdict + ")",
            x.countSequences(length, verdict), m.countSequences(length, verdict));
        same("scannerProbability(" + percent + ", " + contacts + ")",
            x.scannerProbability(percent, contacts), m.scannerProbability(percent, contacts));
        same("expectedContacts(" + percent + ", " + contacts + ")",
            x.expectedContacts(percent, contacts), m.expectedContacts(percent, contacts));
    }
}
