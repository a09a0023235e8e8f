import java.lang.reflect.InvocationTargetException;
import java.lang.reflect.Method;
import java.nio.file.Files;
import java.nio.file.Path;
import java.util.ArrayList;
import java.util.Comparator;
import java.util.List;
import java.util.function.Supplier;
import java.util.function.ToLongFunction;
import java.util.regex.Matcher;
import java.util.regex.Pattern;

/**
 * What the tests of the edges share. Each test is a static method promise<number>_<edge> with the
 * sentence it is about; the sentence must stand in the document, in that promise or ahead of all.
 */
abstract class Edges {
    static final int UNKNOWN = -1, OUTSIDE = -2, STATE = -3, FULL = -4, NONE = -9;
    static final int LOW = Integer.MIN_VALUE, HIGH = Integer.MAX_VALUE;

    private static final Pattern NAME = Pattern.compile("promise(\\d+)_\\w+");
    private static final Path DOCUMENT = Path.of("../shared/DOC.md");
    private static int wrong = 0;
    private static String running = "";

    static void due(String call, long got, long want) {
        if (got != want) {
            fail(call + " answered " + got + ", due is " + want);
        }
    }

    private static void fail(String what) {
        wrong++;
        System.out.println(running + ": " + what);
    }

    /** Runs the tests of a class, which are those of the promises from first to last. */
    static void run(Class<?> tests, int first, int last) throws Exception {
        String document = Files.readString(DOCUMENT).replaceAll("\\s+", " ");
        List<Method> found = findTests(tests);
        boolean[] tested = new boolean[last + 1];
        for (Method test : found) {
            running = test.getName();
            int promise = promiseOf(test);
            if (promise < first || promise > last) {
                fail("is not of the promises " + first + " to " + last);
            } else {
                tested[promise] = true;
                runOne(test, bindingText(document, promise));
            }
        }
        running = tests.getName();
        for (int promise = first; promise <= last; promise++) {
            if (!tested[promise]) {
                fail("promise " + promise + " has no test");
            }
        }
        System.out.println(found.size() + " edges, " + wrong + " things not as due");
        if (wrong != 0) {
            System.exit(1);
        }
    }

    private static List<Method> findTests(Class<?> tests) {
        List<Method> found = new ArrayList<>();
        for (Method method : tests.getDeclaredMethods()) {
            if (method.getName().startsWith("promise")) {
                found.add(method);
            }
        }
        found.sort(Comparator.comparing(Edges::promiseOf).thenComparing(Method::getName));
        return found;
    }

    private static int promiseOf(Method test) {
        Matcher name = NAME.matcher(test.getName());
        return name.matches() ? Integer.parseInt(name.group(1)) : -1;
    }

    /** What the document says of a promise: its own section and all ahead of the first one. */
    private static String bindingText(String document, int promise) {
        int start = document.indexOf("## Promise " + promise + ":");
        int end = document.indexOf(" ## ", start);
        String ahead = document.substring(0, document.indexOf("## Promise 1:"));
        return ahead + document.substring(start, end);
    }

    private static void runOne(Method test, String binding) throws IllegalAccessException {
        Edge edge = test.getAnnotation(Edge.class);
        if (edge == null || !binding.contains(edge.value())) {
            fail("its sentence is not in the document");
            return;
        }
        int before = wrong;
        try {
            test.setAccessible(true);
            test.invoke(null);
        } catch (InvocationTargetException thrown) {
            fail("threw " + thrown.getCause());
        }
        if (wrong > before) {
            System.out.println(running + " is about: " + edge.value());
        }
    }

    // ---- objects to begin with

    static PullCards stations(int... times) {
        PullCards x = new PullCards();
        for (int time : times) {
            x.station(time);
        }
        return x;
    }

    static PullCards eightStations(int time) {
        return stations(time, time, time, time, time, time, time, time);
    }

    /** One station with an arc to itself. */
    static PullCards own(int time, int cards) {
        PullCards x = stations(time);
        x.arc(0, 0, cards);
        return x;
    }

    /** Stations 0 of 3 ticks and 1 of 4 ticks, arc 0 from 0 to 1 and arc 1 from 1 to 0. */
    static PullCards pair(int there, int back) {
        PullCards x = stations(3, 4);
        x.arc(0, 1, there);
        x.arc(1, 0, back);
        return x;
    }

    /** Eight stations in a ring, arc i from station i to the next one; the last one leads to 0. */
    static PullCards ring(int time, int cards, int cardsOfLast) {
        PullCards x = eightStations(time);
        for (int i = 0; i < 8; i++) {
            x.arc(i, (i + 1) % 8, i == 7 ? cardsOfLast : cards);
        }
        return x;
    }

    /** All stations and arcs that there can be: the ring, each arc doubled, 256 loops. */
    static PullCards doubledRing(int time, int cards) {
        PullCards x = ring(time, cards, cards);
        for (int i = 0; i < 8; i++) {
            x.arc(i, (i + 1) % 8, cards);
        }
        return x;
    }

    /** One station with all arcs that there can be, all to itself. */
    static PullCards sixteenOwn(int time, int cards) {
        PullCards x = stations(time);
        for (int i = 0; i < 16; i++) {
            x.arc(0, 0, cards);
        }
        return x;
    }

    static PullCards machines(int b0, int r0, int b1, int r1, int store) {
        PullCards x = new PullCards();
        x.machine(0, b0, r0);
        x.machine(1, b1, r1);
        x.store(store);
        return x;
    }

    static PullCards demands(int... demands) {
        PullCards x = new PullCards();
        for (int kind = 0; kind < demands.length; kind++) {
            x.demand(kind, demands[kind]);
        }
        return x;
    }

    /** Something of everything, with a note of which one loop lost a card and another gained one. */
    static PullCards something() {
        PullCards x = stations(3, 5, 20);
        x.arc(0, 1, 1);
        x.arc(1, 0, 2);
        x.arc(1, 2, 3);
        x.arc(2, 2, 4);
        x.arc(2, 0, 0);
        addMachinesAndKinds(x);
        x.note();
        x.put(1, 1);
        x.put(3, 5);
        return x;
    }

    /** As many stations and arcs as there can be, with a note and one card lost since. */
    static PullCards everything() {
        PullCards x = doubledRing(20, 9);
        addMachinesAndKinds(x);
        x.note();
        x.put(15, 8);
        return x;
    }

    private static void addMachinesAndKinds(PullCards x) {
        x.machine(0, 1, 2);
        x.machine(1, 3, 4);
        x.store(3);
        for (int kind = 0; kind < 6; kind++) {
            x.demand(kind, kind == 5 ? 20 : kind);
        }
    }

    // ---- refusals

    /** The call is refused, and afterwards all is told as if it had never been made. */
    static void refusedUnchanged(
            Supplier<PullCards> made, String call, ToLongFunction<PullCards> told, long want) {
        PullCards x = made.get();
        due(call, told.applyAsLong(x), want);
        unchanged(made, call, told);
    }

    static void unchanged(Supplier<PullCards> made, String call, ToLongFunction<PullCards> told) {
        PullCards x = made.get();
        told.applyAsLong(x);
        List<String> after = tellAll(x);
        List<String> without = tellAll(made.get());
        for (int i = 0; i < without.size(); i++) {
            if (!after.get(i).equals(without.get(i))) {
                fail("after " + call + " it is " + after.get(i) + ", not " + without.get(i));
            }
        }
    }

    /** What can be asked, and then, by calls that change something, what only these tell. */
    private static List<String> tellAll(PullCards x) {
        List<String> all = new ArrayList<>();
        tellLine(x, all);
        tellLoops(x, all);
        tellMachinesAndKinds(x, all);
        for (int station = 0; station < 8; station++) {
            all.add("time " + station + ": " + x.time(station, 1));
        }
        for (int kind = 0; kind < 6; kind++) {
            all.add("demand " + kind + ": " + x.demand(kind, 1));
        }
        for (int machine = 0; machine < 2; machine++) {
            all.add("chances " + machine + ": " + x.machine(machine, 0, 0));
        }
        all.add("round: " + x.round());
        all.add("cards after it: " + x.total(2));
        all.add("next station: " + x.station(1));
        all.add("next arc: " + x.arc(0, 0, 0));
        return all;
    }

    private static void tellLine(PullCards x, List<String> all) {
        for (int what = 0; what < 6; what++) {
            all.add("total " + what + ": " + x.total(what));
        }
        for (int arc = 0; arc < 16; arc++) {
            for (int what = 0; what < 3; what++) {
                all.add("arc " + arc + ", " + what + ": " + x.about(arc, what));
            }
        }
        for (int station = 0; station < 8; station++) {
            all.add("ready " + station + ": " + x.ready(station));
            all.add("begins " + station + ": " + x.begins(station, 60));
        }
    }

    private static void tellLoops(PullCards x, List<String> all) {
        all.add("loops: " + x.loops());
        for (int loop = 0; loop < 20; loop++) {
            all.add("loop " + loop + ": " + x.loop(loop, 0) + " " + x.loop(loop, 1));
            all.add("sums " + loop + ": " + x.sum(loop, true) + " " + x.sum(loop, false));
        }
        all.add("pace: " + x.pace(true) + " by " + x.pace(false));
        all.add("slowest: " + x.slowest());
        all.add("audit: " + x.audit(true) + " " + x.audit(false));
    }

    private static void tellMachinesAndKinds(PullCards x, List<String> all) {
        for (int ticks = 1; ticks <= 4; ticks++) {
            all.add("given " + ticks + ": " + x.given(ticks, true) + " by " + x.given(ticks, false));
        }
        all.add("just: " + x.just(4, 2, true) + " by " + x.just(4, 2, false));
        for (int place = 0; place < 40; place++) {
            all.add("at " + place + ": " + x.at(place));
        }
        all.add("rough: " + x.rough() + ", changes: " + x.changes());
    }
}
