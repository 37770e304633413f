import java.util.ArrayDeque;
import java.util.ArrayList;
import java.util.HashSet;
import java.util.Iterator;
import java.util.List;
import java.util.Map;
import java.util.Set;
import java.util.TreeMap;

/**
 * A second detector, written from the document alone with the Java library and no care for speed.
 * It shares no code and no layout of state with ScanDetector.
 */
final class Model {
    private record Pending(int source, int destination, int deadline) { }

    private static final class Cell {
        int score = 0;
        boolean blocked = false;
        final Set<Integer> seen = new HashSet<>();
        int stopped = 0;
        int wrong = 0;
    }

    private int up = 3, down = 2, upper = 12, lower = -8, timeout = 3, time = 0;
    private List<Cell> cells = newCells(8);
    private final List<Pending> pending = new ArrayList<>();
    private final ArrayDeque<Integer> verdicts = new ArrayDeque<>(); // the latest first, all of them
    private String input = "";

    private static List<Cell> newCells(int n) {
        List<Cell> made = new ArrayList<>();
        for (int i = 0; i < n; i++) {
            made.add(new Cell());
        }
        return made;
    }

    private void reset(int n) {
        cells = newCells(n);
        pending.clear();
        verdicts.clear();
        time = 0;
    }

    int configure(int up, int down, int upper, int lower) {
        boolean fine = up >= 1 && up <= 9 && down >= 1 && down <= 9
            && upper >= 1 && upper <= 60 && lower >= -60 && lower <= -1;
        if (!fine) {
            return -104;
        }
        this.up = up;
        this.down = down;
        this.upper = upper;
        this.lower = lower;
        reset(cells.size());
        return cells.size();
    }

    int setCells(int n) {
        if (n < 1 || n > 8) {
            return -104;
        }
        int before = cells.size();
        reset(n);
        return before;
    }

    int setTimeout(int ticks) {
        if (ticks < 1 || ticks > 20) {
            return -104;
        }
        int before = timeout;
        timeout = ticks;
        return before;
    }

    private int outcome(int c, boolean success) {
        Cell cell = cells.get(c);
        if (success) {
            cell.score -= down;
        } else {
            cell.score += up;
        }
        if (cell.score >= upper) {
            cell.blocked = true;
            pending.removeIf(p -> p.source() % cells.size() == c);
            verdicts.addFirst(10 * c + 1);
            return 1;
        }
        if (cell.score <= lower) {
            cell.score = 0;
            cell.seen.clear();
            verdicts.addFirst(10 * c + 2);
            return 2;
        }
        return 0;
    }

    int connect(int s, int d, boolean success) {
        if (s < 0 || s > 7) {
            return -105;
        }
        if (d < 0 || d > 31) {
            return -106;
        }
        Cell cell = cells.get(s % cells.size());
        if (cell.blocked) {
            cell.stopped++;
            cell.wrong += success ? 1 : 0;
            return 3;
        }
        return cell.seen.add(d) ? outcome(s % cells.size(), success) : 4;
    }

    int attempt(int s, int d) {
        if (s < 0 || s > 7) {
            return -105;
        }
        if (d < 0 || d > 31) {
            return -106;
        }
        Cell cell = cells.get(s % cells.size());
        if (cell.blocked) {
            cell.stopped++;
            return 3;
        }
        if (cell.seen.contains(d)) {
            return 4;
        }
        if (pending.size() == 12) {
            return -110;
        }
        cell.seen.add(d);
        pending.add(new Pending(s, d, time + timeout));
        return 0;
    }

    int answer(int s, int d) {
        Iterator<Pending> it = pending.iterator();
        while (it.hasNext()) {
            Pending p = it.next();
            if (p.source() == s && p.destination() == d) {
                it.remove();
                return outcome(s % cells.size(), true);
            }
        }
        return -108;
    }

    int advance(int ticks) {
        if (ticks < 1 || ticks > 50) {
            return -104;
        }
        int failed = 0;
        for (int i = 0; i < ticks; i++) {
            time++;
            List<Pending> due = new ArrayList<>(pending);
            due.removeIf(p -> p.deadline() != time);
            for (Pending p : due) {
                int at = identityIndex(p);
                if (at >= 0) {
                    pending.remove(at);
                    failed++;
                    outcome(p.source() % cells.size(), false);
                }
            }
        }
        return failed;
    }

    private int identityIndex(Pending p) {
        for (int i = 0; i < pending.size(); i++) {
            if (pending.get(i) == p) {
                return i;
            }
        }
        return -1;
    }

    int unblock(int c) {
        if (c < 0 || c >= cells.size()) {
            return -107;
        }
        Cell cell = cells.get(c);
        if (!cell.blocked) {
            return -111;
        }
        int before = cell.score;
        cell.score = 0;
        cell.blocked = false;
        cell.seen.clear();
        return before;
    }

    int append(int code) {
        if (code < 32 || code > 126) {
            return -101;
        }
        if (input.length() == 59) {
            return -102;
        }
        input += (char) code;
        return input.length();
    }

    int clearInput() {
        int before = input.length();
        input = "";
        return before;
    }

    /** The longest prefix that can be completed ends where the first error is. */
    int firstError() {
        String contact = "([0-7]>([0-2][0-9]|3[01])[+-],)";
        String begun = "([0-7](>([0-3]|(([0-2][0-9]|3[01])[+-]?))?)?)?";
        for (int n = 1; n <= input.length(); n++) {
            if (!input.substring(0, n).matches(contact + "*" + begun)) {
                return n - 1;
            }
        }
        return input.length();
    }

    int runInput() {
        if (!input.matches("[0-7]>([0-2][0-9]|3[01])[+-](,[0-7]>([0-2][0-9]|3[01])[+-])*")) {
            return -103;
        }
        int changed = 0;
        for (String part : input.split(",")) {
            int s = Integer.parseInt(part.substring(0, 1));
            int d = Integer.parseInt(part.substring(2, 4));
            if (connect(s, d, part.endsWith("+")) < 3) {
                changed++;
            }
        }
        input = "";
        return changed;
    }

    int cellOf(int s) {
        return s < 0 || s > 7 ? -105 : s % cells.size();
    }

    private Cell cell(int c) {
        return c < 0 || c >= cells.size() ? null : cells.get(c);
    }

    int score(int c) {
        return cell(c) == null ? -107 : cell(c).score;
    }

    int isBlocked(int c) {
        return cell(c) == null ? -107 : cell(c).blocked ? 1 : 0;
    }

    long seenDestinations(int c) {
        if (cell(c) == null) {
            return -107;
        }
        long mask = 0;
        for (int d : cell(c).seen) {
            mask += 1L << d;
        }
        return mask;
    }

    int blockedContacts(int c) {
        return cell(c) == null ? -107 : cell(c).stopped;
    }

    int wronglyBlocked(int c) {
        return cell(c) == null ? -107 : cell(c).wrong;
    }

    int attemptCount() {
        return pending.size();
    }

    int describeAttempt(int i) {
        if (i < 0 || i >= pending.size()) {
            return -108;
        }
        Pending p = pending.get(i);
        return 1000 * (p.deadline() - time) + 100 * p.source() + p.destination();
    }

    int clock() {
        return time;
    }

    int verdictCount() {
        return verdicts.size();
    }

    int describeVerdict(int back) {
        if (back < 0 || back > 15 || back >= verdicts.size()) {
            return -109;
        }
        return new ArrayList<>(verdicts).get(back);
    }

    int countSequences(int contacts, int verdict) {
        if (contacts < 0 || contacts > 20 || verdict < 0 || verdict > 2) {
            return -104;
        }
        int n = 0;
        for (int sequence = 0; sequence < 1 << contacts; sequence++) {
            if (verdictOf(sequence, contacts) == verdict) {
                n++;
            }
        }
        return n;
    }

    private int verdictOf(int sequence, int contacts) {
        int s = 0;
        for (int i = 0; i < contacts; i++) {
            s += (sequence >> i & 1) == 1 ? -down : up;
            if (s >= upper) {
                return 1;
            }
            if (s <= lower) {
                return 2;
            }
        }
        return 0;
    }

    long scannerProbability(int percent, int contacts) {
        return analyse(percent, contacts)[0];
    }

    long expectedContacts(int percent, int contacts) {
        return analyse(percent, contacts)[1];
    }

    private long[] analyse(int percent, int contacts) {
        if (percent < 0 || percent > 100 || contacts < 0 || contacts > 60) {
            return new long[] {-104, -104};
        }
        double p = percent / 100.0;
        double q = 1.0 - p;
        double r = 0.0;
        double e = 0.0;
        TreeMap<Integer, Double> a = zeros();
        a.put(0, 1.0);
        for (int i = 0; i < contacts; i++) {
            double sum = 0.0;
            for (double x : a.values()) {
                sum += x;
            }
            e += sum;
            TreeMap<Integer, Double> b = zeros();
            for (Map.Entry<Integer, Double> entry : a.entrySet()) {
                int s = entry.getKey();
                if (s + up >= upper) {
                    r += entry.getValue() * q;
                } else {
                    b.put(s + up, b.get(s + up) + entry.getValue() * q);
                }
                if (s - down > lower) {
                    b.put(s - down, b.get(s - down) + entry.getValue() * p);
                }
            }
            a = b;
        }
        return new long[] {Double.doubleToLongBits(r), Double.doubleToLongBits(e)};
    }

    private TreeMap<Integer, Double> zeros() {
        TreeMap<Integer, Double> a = new TreeMap<>();
        for (int s = lower + 1; s < upper; s++) {
            a.put(s, 0.0);
        }
        return a;
    }

    long digest() {
        List<Long> values = new ArrayList<>();
        for (int x : new int[] {cells.size(), up, down, upper, lower, timeout, time}) {
            values.add((long) x);
        }
        for (int c = 0; c < cells.size(); c++) {
            values.add((long) score(c));
            values.add((long) isBlocked(c));
            values.add(seenDestinations(c));
            values.add((long) blockedContacts(c));
            values.add((long) wronglyBlocked(c));
        }
        values.add((long) pending.size());
        for (int i = 0; i < pending.size(); i++) {
            values.add((long) describeAttempt(i));
        }
        values.add((long) verdicts.size());
        for (int i = 0; i < 16 && i < verdicts.size(); i++) {
            values.add((long) describeVerdict(i));
        }
        values.add((long) countSequences(10, 1));
        values.add((long) countSequences(10, 2));
        values.add(scannerProbability(20, 12));
        values.add(expectedContacts(20, 12));
        values.add((long) input.length());
        for (char c : input.toCharArray()) {
            values.add((long) c);
        }
        long hash = 1777;
        for (long x : values) {
            hash = 31 * hash + x;
        }
        return hash;
    }
}
