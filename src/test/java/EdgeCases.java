import java.lang.reflect.InvocationTargetException;
import java.lang.reflect.Method;
import java.lang.reflect.Modifier;
import java.util.ArrayList;
import java.util.Comparator;
import java.util.List;
import java.util.Set;
import java.util.TreeSet;
import java.util.function.Supplier;
import java.util.function.ToLongFunction;
import java.util.regex.Matcher;
import java.util.regex.Pattern;

/**
 * What the tests of the edges share. A case is a static method named after its promise and what it
 * looks at: promise2_configure_up10IsRefused.
 */
abstract class EdgeCases {
    // The document's numbers, written down a second time: a test that took them from the class would follow its faults.
    static final int UNDECIDED = 0, SCANNER = 1, BENIGN = 2, BLOCKED = 3, REPEATED = 4;
    static final int BAD_CHARACTER = -101, BUFFER_FULL = -102, INVALID_INPUT = -103, OUT_OF_RANGE = -104;
    static final int NO_SUCH_SOURCE = -105, NO_SUCH_DESTINATION = -106, NO_SUCH_CELL = -107, NO_SUCH_ATTEMPT = -108;
    static final int NO_SUCH_VERDICT = -109, TOO_MANY_ATTEMPTS = -110, NOT_BLOCKED = -111;

    /** Out of every range, and where a sum or a difference wraps around. */
    static final int[] FAR = {
        Integer.MIN_VALUE, Integer.MIN_VALUE + 1, -65536, -1000, 1000, 65536, Integer.MAX_VALUE - 1, Integer.MAX_VALUE
    };
    static final String TEN_CONTACTS = "0>00-,1>09+,2>10-,3>19+,4>20-,5>29+,6>30-,7>31+,0>01-,7>30+";

    private static final String[] PROMISES = {
        "newObject", "configure", "setCells", "setTimeout", "connect", "attempt", "answer", "advance", "unblock", "append",
        "clearInput", "firstError", "runInput", "cellOf", "score", "isBlocked", "seenDestinations", "blockedContacts",
        "wronglyBlocked", "attemptCount", "describeAttempt", "clock", "verdictCount", "describeVerdict", "countSequences",
        "scannerProbability", "expectedContacts", "digest"
    };
    private static final Pattern NAME = Pattern.compile("promise(\\d+)_([a-zA-Z]+)_([a-zA-Z0-9]+)");
    private static final Due DUE = new Due();
    private static String running = "";

    // ---- running

    /** Runs every case of a class, and fails if one of its promises has none. */
    static void run(Class<?> tests, int firstPromise, int lastPromise) {
        Set<Integer> missing = new TreeSet<>();
        for (int n = firstPromise; n <= lastPromise; n++) {
            missing.add(n);
        }
        List<Method> cases = casesOf(tests);
        for (Method method : cases) {
            missing.remove(promiseOf(method));
            runOne(method);
        }
        DUE.isTrue("promises without a case: " + missing, missing.isEmpty());
        System.out.println(cases.size() + " cases");
        DUE.end();
    }

    private static List<Method> casesOf(Class<?> tests) {
        List<Method> cases = new ArrayList<>();
        for (Method method : tests.getDeclaredMethods()) {
            boolean plain = Modifier.isStatic(method.getModifiers()) && !method.isSynthetic()
                && method.getParameterCount() == 0 && method.getReturnType() == void.class;
            if (plain) {
                DUE.isTrue(method.getName() + " is named after a promise and a case", promiseOf(method) > 0);
                cases.add(method);
            }
        }
        cases.sort(Comparator.comparingInt(EdgeCases::promiseOf).thenComparing(Method::getName));
        return cases;
    }

    /** The number of the promise that a case is named after; 0 if the name is none. */
    private static int promiseOf(Method method) {
        Matcher matcher = NAME.matcher(method.getName());
        if (!matcher.matches()) {
            return 0;
        }
        int number = Integer.parseInt(matcher.group(1));
        boolean known = number >= 1 && number <= PROMISES.length && PROMISES[number - 1].equals(matcher.group(2));
        return known ? number : 0;
    }

    private static void runOne(Method method) {
        running = method.getName();
        int before = DUE.checksSoFar();
        try {
            method.invoke(null);
        } catch (InvocationTargetException e) {
            DUE.fail(running + " threw " + e.getCause());
        } catch (IllegalAccessException e) {
            DUE.fail(running + " cannot be called");
        }
        DUE.isTrue(running + " checks something", DUE.checksSoFar() > before);
    }

    // ---- checks

    static void is(String call, long got, long want) {
        DUE.is(running + ": " + call, got, want);
    }

    /** A call on an object of this start answers so, and no later call on the object tells that it was made. */
    static void changesNothing(String call, Supplier<ScanDetector> start, ToLongFunction<ScanDetector> made, long want) {
        ScanDetector x = start.get();
        ScanDetector untouched = start.get();
        is(call, made.applyAsLong(x), want);
        same(call + " changes nothing", Shown.fromNowOn(x), Shown.fromNowOn(untouched));
    }

    /** A call answers so, and of all that can be asked only these answers change. */
    static void changesOnly(String call, ScanDetector x, ToLongFunction<ScanDetector> made, long want, String... changed) {
        List<String> before = Shown.asked(x);
        is(call, made.applyAsLong(x), want);
        List<String> after = Shown.asked(x);
        for (String asked : changed) {
            before.removeIf(line -> line.startsWith(asked + " = "));
            after.removeIf(line -> line.startsWith(asked + " = "));
        }
        same(call + " changes only " + String.join(", ", changed), after, before);
    }

    static void same(String what, List<String> got, List<String> want) {
        is(what + ": number of answers", got.size(), want.size());
        for (int i = 0; i < Math.min(got.size(), want.size()); i++) {
            if (!got.get(i).equals(want.get(i))) {
                DUE.fail(running + ": " + what + ": " + got.get(i) + ", due is " + want.get(i));
                return;
            }
        }
    }

    // ---- making objects

    /** First contacts of a source, one for each sign (+ succeeds, - fails), from a destination on. Answers the last answer. */
    static int walk(ScanDetector x, int source, int destination, String outcomes) {
        int last = UNDECIDED;
        for (int i = 0; i < outcomes.length(); i++) {
            last = x.connect(source, destination + i, outcomes.charAt(i) == '+');
        }
        return last;
    }

    static ScanDetector typed(String text) {
        ScanDetector x = new ScanDetector();
        type(x, text);
        return x;
    }

    static void type(ScanDetector x, String text) {
        DUE.type(x, text);
    }

    static ScanDetector configured(int up, int down, int upper, int lower) {
        ScanDetector x = new ScanDetector();
        is("configure(" + up + ", " + down + ", " + upper + ", " + lower + ")", x.configure(up, down, upper, lower), 8);
        return x;
    }

    /** Something of everything: 4 cells, a blocked one with both counters up, a benign verdict, 3 attempts, time, text. */
    static ScanDetector busy() {
        ScanDetector x = new ScanDetector();
        x.setCells(4);
        x.configure(4, 3, 11, -7);
        x.setTimeout(9);
        walk(x, 1, 0, "---"); // cell 1 is blocked at 12
        x.connect(1, 9, true);
        x.attempt(5, 9);
        walk(x, 2, 0, "+++"); // cell 2 is benign
        x.connect(2, 3, true);
        x.attempt(3, 30);
        x.advance(2);
        x.attempt(7, 31);
        x.attempt(0, 5);
        x.connect(0, 6, false);
        type(x, "3>07-,2>1");
        return x;
    }

    /** Cell 5 is blocked at 12 and has seen 0 to 3; an attempt pends in cell 2. */
    static ScanDetector withBlocked() {
        ScanDetector x = new ScanDetector();
        x.attempt(2, 2);
        walk(x, 5, 0, "----");
        return x;
    }

    /** Twelve attempts pend: of source i % 4 with destination i, all with 20 ticks to go. Cell 5 is blocked. */
    static ScanDetector withTwelve() {
        ScanDetector x = new ScanDetector();
        walk(x, 5, 0, "----");
        x.setTimeout(20);
        for (int i = 0; i < 12; i++) {
            x.attempt(i % 4, i);
        }
        return x;
    }

    static ScanDetector withFullInput() {
        return typed(TEN_CONTACTS);
    }
}
