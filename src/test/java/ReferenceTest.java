import java.math.BigInteger;
import java.util.ArrayList;
import java.util.Arrays;
import java.util.HashMap;
import java.util.List;
import java.util.Map;

/**
 * Long runs of calls, of which each answer is compared with that of a second program, which does
 * everything in the most direct way: loops as all sets of arcs that are rings, beginnings by asking
 * back, cards by trying, chances by going through what can come, in fractions of big numbers.
 */
public final class ReferenceTest {
    private static final int RUNS = 1200;
    private static final int CALLS = 512;
    private static long seed = 20261119L;

    public static void main(String[] args) {
        int wrong = 0;
        for (int run = 0; run < RUNS && wrong < 10; run++) {
            wrong += runOne(run);
        }
        System.out.println(wrong == 0 ? "all runs are as due" : wrong + " runs are not as due");
        if (wrong != 0) {
            System.exit(1);
        }
    }

    /** The numbers come from a fixed rule, so that each time the runs are the same. */
    private static int draw(int bound) {
        seed = seed * 6364136223846793005L + 1442695040888963407L;
        return (int) Math.floorMod(seed >>> 33, (long) bound);
    }

    /** Most often a number from 0 to most, at times one beside it. */
    private static int near(int most) {
        if (draw(40) == 0) {
            int[] beside = {-1, most + 1, Integer.MIN_VALUE, Integer.MAX_VALUE, -9, most + 2};
            return beside[draw(beside.length)];
        }
        return draw(most + 1);
    }

    private static int runOne(int run) {
        PullCards x = new PullCards();
        Model model = new Model();
        int stations = 1 + draw(8);
        int arcs = draw(17);
        int leastCards = draw(3) == 0 ? 0 : 1;
        int mostCards = 1 + draw(9);
        for (int call = 0; call < CALLS; call++) {
            int[] told = new int[4];
            int which = call < stations ? 0 : call < stations + arcs ? 1 : 2 + draw(28);
            if (which == 2) {
                which = draw(12) == 0 ? draw(2) : 14;
            }
            drawNumbers(which, told, model, leastCards, mostCards);
            long got = call(x, which, told);
            long want = model.call(which, told);
            if (got != want) {
                System.out.println("run " + run + ", call " + call + ": " + NAMES[which]
                        + Arrays.toString(told) + " answered " + got + ", due is " + want);
                return 1;
            }
        }
        return 0;
    }

    private static final String[] NAMES = {
        "station", "arc", "-", "time", "put", "about", "ready", "fire", "round", "loops", "loop",
        "sum", "pace", "slowest", "begins", "note", "audit", "cards", "machine", "store", "given",
        "just", "least", "demand", "at", "rough", "changes", "total", "begins", "loop"
    };

    private static void drawNumbers(
            int which, int[] told, Model model, int leastCards, int mostCards) {
        int stations = Math.max(1, model.times.size()) - 1;
        int arcs = Math.max(1, model.arcs.size()) - 1;
        told[3] = draw(2);
        switch (NAMES[which]) {
            case "station":
                told[0] = near(20);
                break;
            case "arc":
                told[0] = near(stations);
                told[1] = near(stations);
                told[2] = draw(4) == 0 ? near(9) : leastCards + draw(mostCards);
                break;
            case "time":
                told[0] = near(stations);
                told[1] = near(20);
                break;
            case "put":
                told[0] = near(arcs);
                told[1] = draw(3) == 0 ? near(9) : leastCards + draw(mostCards);
                break;
            case "about":
                told[0] = near(arcs);
                told[1] = near(2);
                break;
            case "ready":
            case "fire":
                told[0] = near(stations);
                break;
            case "loop":
            case "sum":
                told[0] = near(Math.max(1, model.loops().size()) - 1);
                told[1] = near(8);
                break;
            case "begins":
                told[0] = near(stations);
                told[1] = near(60);
                break;
            case "cards":
                told[0] = near(arcs);
                drawFraction(told, 60);
                break;
            case "machine":
                told[0] = near(1);
                told[1] = near(4);
                told[2] = near(4);
                break;
            case "store":
                told[0] = near(6);
                break;
            case "given":
                told[0] = near(10);
                break;
            case "just":
                told[0] = near(10);
                told[1] = near(10);
                break;
            case "least":
                told[0] = near(10);
                drawFraction(told, 8);
                break;
            case "demand":
                told[0] = near(5);
                told[1] = draw(3) == 0 ? near(20) : near(4);
                break;
            case "at":
                told[0] = near(Math.max(1, model.total(4)));
                break;
            case "total":
                told[0] = near(5);
                break;
            default:
                break;
        }
    }

    private static void drawFraction(int[] told, int greatest) {
        told[2] = draw(3) == 0 ? near(1000) : 1 + draw(12);
        int fair = (int) Math.min(1000L, Math.max(1L, Math.abs((long) told[2]) * greatest / 4));
        told[1] = draw(4) == 0 ? near(1000) : 1 + draw(fair);
    }

    private static long call(PullCards x, int which, int[] t) {
        boolean yes = t[3] == 1;
        switch (NAMES[which]) {
            case "station": return x.station(t[0]);
            case "arc": return x.arc(t[0], t[1], t[2]);
            case "time": return x.time(t[0], t[1]);
            case "put": return x.put(t[0], t[1]);
            case "about": return x.about(t[0], t[1]);
            case "ready": return x.ready(t[0]);
            case "fire": return x.fire(t[0]);
            case "round": return x.round();
            case "loops": return x.loops();
            case "loop": return x.loop(t[0], t[1]);
            case "sum": return x.sum(t[0], yes);
            case "pace": return x.pace(yes);
            case "slowest": return x.slowest();
            case "begins": return x.begins(t[0], t[1]);
            case "note": return x.note();
            case "audit": return x.audit(yes);
            case "cards": return x.cards(t[0], t[1], t[2]);
            case "machine": return x.machine(t[0], t[1], t[2]);
            case "store": return x.store(t[0]);
            case "given": return x.given(t[0], yes);
            case "just": return x.just(t[0], t[1], yes);
            case "least": return x.least(t[0], t[1], t[2]);
            case "demand": return x.demand(t[0], t[1]);
            case "at": return x.at(t[0]);
            case "rough": return x.rough();
            case "changes": return x.changes();
            case "total": return x.total(t[0]);
            default: throw new IllegalStateException(NAMES[which]);
        }
    }

    /** A fraction in least terms, below it 1 or more. */
    private record Part(BigInteger above, BigInteger below) {
        static Part of(BigInteger above, BigInteger below) {
            BigInteger divisor = above.gcd(below);
            return new Part(above.divide(divisor), below.divide(divisor));
        }

        static Part of(long above, long below) {
            return of(BigInteger.valueOf(above), BigInteger.valueOf(below));
        }

        Part plus(Part other) {
            return of(above.multiply(other.below).add(other.above.multiply(below)),
                    below.multiply(other.below));
        }

        Part times(Part other) {
            return of(above.multiply(other.above), below.multiply(other.below));
        }

        int compare(Part other) {
            return above.multiply(other.below).compareTo(other.above.multiply(below));
        }

        long half(boolean upper) {
            return (upper ? above : below).longValueExact();
        }
    }

    private static final class Model {
        private static final int UNKNOWN = -1, OUTSIDE = -2, STATE = -3, FULL = -4, NONE = -9;

        final List<Integer> times = new ArrayList<>();
        /** From, to, cards. */
        final List<int[]> arcs = new ArrayList<>();
        List<List<Integer>> loops = null;
        List<Integer> noted = null;
        final int[][] chances = new int[2][2];
        int store = 0;
        final int[] demands = new int[6];

        private static boolean outside(int number, int least, int most) {
            return number < least || most < number;
        }

        private boolean noStation(int number) {
            return outside(number, 0, times.size() - 1);
        }

        private boolean noArc(int number) {
            return outside(number, 0, arcs.size() - 1);
        }

        long call(int which, int[] t) {
            boolean yes = t[3] == 1;
            switch (NAMES[which]) {
                case "station": return station(t[0]);
                case "arc": return arc(t[0], t[1], t[2]);
                case "time": return time(t[0], t[1]);
                case "put": return put(t[0], t[1]);
                case "about": return about(t[0], t[1]);
                case "ready": return noStation(t[0]) ? UNKNOWN : ready(t[0]) ? 1 : 0;
                case "fire": return fire(t[0]);
                case "round": return round();
                case "loops": return loops().size();
                case "loop": return loop(t[0], t[1]);
                case "sum": return sum(t[0], yes);
                case "pace": return pace(yes);
                case "slowest": return slowest();
                case "begins": return begins(t[0], t[1]);
                case "note": return note();
                case "audit": return audit(yes);
                case "cards": return cards(t[0], t[1], t[2]);
                case "machine": return machine(t[0], t[1], t[2]);
                case "store": return store(t[0]);
                case "given": return given(t[0], yes);
                case "just": return just(t[0], t[1], yes);
                case "least": return least(t[0], t[1], t[2]);
                case "demand": return demand(t[0], t[1]);
                case "at": return at(t[0]);
                case "rough": return rough();
                case "changes": return changes();
                case "total": return total(t[0]);
                default: throw new IllegalStateException(NAMES[which]);
            }
        }

        private int station(int time) {
            if (outside(time, 1, 20)) {
                return OUTSIDE;
            }
            if (times.size() == 8) {
                return FULL;
            }
            times.add(time);
            noted = null;
            return times.size() - 1;
        }

        private int arc(int from, int to, int cards) {
            if (noStation(from) || noStation(to)) {
                return UNKNOWN;
            }
            if (outside(cards, 0, 9)) {
                return OUTSIDE;
            }
            if (arcs.size() == 16) {
                return FULL;
            }
            arcs.add(new int[] {from, to, cards});
            loops = null;
            noted = null;
            return arcs.size() - 1;
        }

        private int time(int station, int time) {
            if (noStation(station)) {
                return UNKNOWN;
            }
            return outside(time, 1, 20) ? OUTSIDE : times.set(station, time);
        }

        private int put(int arc, int cards) {
            if (noArc(arc)) {
                return UNKNOWN;
            }
            if (outside(cards, 0, 9)) {
                return OUTSIDE;
            }
            int was = arcs.get(arc)[2];
            arcs.get(arc)[2] = cards;
            return was;
        }

        private int about(int arc, int what) {
            if (noArc(arc)) {
                return UNKNOWN;
            }
            return outside(what, 0, 2) ? OUTSIDE : arcs.get(arc)[what];
        }

        private boolean ready(int station) {
            return arcs.stream().noneMatch(arc -> arc[1] == station && arc[2] == 0);
        }

        private int fire(int station) {
            if (noStation(station)) {
                return UNKNOWN;
            }
            if (!ready(station)) {
                return STATE;
            }
            List<Integer> after = new ArrayList<>();
            for (int[] arc : arcs) {
                int gone = arc[1] == station ? 1 : 0;
                int come = arc[0] == station ? 1 : 0;
                after.add(arc[2] - gone + come);
            }
            if (after.contains(10)) {
                return FULL;
            }
            for (int i = 0; i < after.size(); i++) {
                arcs.get(i)[2] = after.get(i);
            }
            return total(5);
        }

        private int round() {
            int fired = 0;
            for (int station = 0; station < times.size(); station++) {
                if (fire(station) >= 0) {
                    fired++;
                }
            }
            return fired;
        }

        /** All sets of arcs that are one ring, each as a row from its least station, sorted. */
        List<List<Integer>> loops() {
            if (loops == null) {
                loops = new ArrayList<>();
                for (int set = 1; set < 1 << arcs.size(); set++) {
                    List<Integer> ring = ring(set);
                    if (ring != null) {
                        loops.add(ring);
                    }
                }
                loops.sort(this::compareRows);
            }
            return loops;
        }

        private List<Integer> ring(int set) {
            int[] next = new int[8];
            Arrays.fill(next, -1);
            int least = 8;
            for (int i = 0; i < arcs.size(); i++) {
                if ((set >> i & 1) == 1) {
                    int from = arcs.get(i)[0];
                    if (next[from] >= 0) {
                        return null;
                    }
                    next[from] = i;
                    least = Math.min(least, from);
                }
            }
            List<Integer> row = new ArrayList<>();
            int at = least;
            do {
                if (next[at] < 0 || row.size() == 8) {
                    return null;
                }
                row.add(next[at]);
                at = arcs.get(next[at])[1];
            } while (at != least);
            return row.size() == Integer.bitCount(set) ? row : null;
        }

        private int compareRows(List<Integer> one, List<Integer> other) {
            int startOne = arcs.get(one.get(0))[0];
            int startOther = arcs.get(other.get(0))[0];
            if (startOne != startOther) {
                return Integer.compare(startOne, startOther);
            }
            for (int i = 0; i < Math.min(one.size(), other.size()); i++) {
                if (!one.get(i).equals(other.get(i))) {
                    return Integer.compare(one.get(i), other.get(i));
                }
            }
            return Integer.compare(one.size(), other.size());
        }

        private int loop(int loop, int i) {
            if (outside(loop, 0, loops().size() - 1)) {
                return UNKNOWN;
            }
            List<Integer> row = loops().get(loop);
            return outside(i, 0, row.size() - 1) ? NONE : row.get(i);
        }

        private int sum(int loop, boolean cards) {
            if (outside(loop, 0, loops().size() - 1)) {
                return UNKNOWN;
            }
            int sum = 0;
            for (int arc : loops().get(loop)) {
                sum += cards ? arcs.get(arc)[2] : times.get(arcs.get(arc)[0]);
            }
            return sum;
        }

        private Part pace() {
            Part greatest = null;
            for (int loop = 0; loop < loops().size(); loop++) {
                if (sum(loop, true) == 0) {
                    return null;
                }
                Part part = Part.of(sum(loop, false), sum(loop, true));
                if (greatest == null || part.compare(greatest) > 0) {
                    greatest = part;
                }
            }
            return greatest;
        }

        private long pace(boolean upper) {
            Part pace = pace();
            return pace == null ? NONE : pace.half(upper);
        }

        private int slowest() {
            for (int loop = 0; loop < loops().size(); loop++) {
                if (sum(loop, true) == 0) {
                    return loop;
                }
            }
            Part pace = pace();
            for (int loop = 0; loop < loops().size(); loop++) {
                if (Part.of(sum(loop, false), sum(loop, true)).equals(pace)) {
                    return loop;
                }
            }
            return NONE;
        }

        private int begins(int station, int k) {
            if (noStation(station)) {
                return UNKNOWN;
            }
            return outside(k, 0, 60) ? OUTSIDE : begin(station, k, new HashMap<>());
        }

        /** Asked again for what is being asked, the answer is: never. */
        private int begin(int station, int k, Map<Integer, Integer> known) {
            int key = k * 8 + station;
            if (known.containsKey(key)) {
                return known.get(key);
            }
            known.put(key, NONE);
            int latest = 0;
            for (int[] arc : arcs) {
                if (arc[1] == station && k >= arc[2] && latest != NONE) {
                    int from = begin(arc[0], k - arc[2], known);
                    latest = from == NONE ? NONE : Math.max(latest, from + times.get(arc[0]));
                }
            }
            known.put(key, latest);
            return latest;
        }

        private List<Integer> cardsOfLoops() {
            List<Integer> all = new ArrayList<>();
            for (int loop = 0; loop < loops().size(); loop++) {
                all.add(sum(loop, true));
            }
            return all;
        }

        private int note() {
            noted = cardsOfLoops();
            return noted.size();
        }

        private int audit(boolean lost) {
            if (noted == null) {
                return STATE;
            }
            List<Integer> now = cardsOfLoops();
            int many = 0;
            for (int loop = 0; loop < now.size(); loop++) {
                int order = Integer.compare(now.get(loop), noted.get(loop));
                many += order == (lost ? -1 : 1) ? 1 : 0;
            }
            return many;
        }

        private int cards(int arc, int above, int below) {
            if (noArc(arc)) {
                return UNKNOWN;
            }
            if (outside(above, 1, 1000) || outside(below, 1, 1000)) {
                return OUTSIDE;
            }
            int was = arcs.get(arc)[2];
            int answer = NONE;
            for (int more = 0; was + more <= 9 && answer == NONE; more++) {
                arcs.get(arc)[2] = was + more;
                Part pace = pace();
                boolean reached = pace != null && pace.compare(Part.of(above, below)) <= 0;
                if (loops().isEmpty() || reached) {
                    answer = more;
                }
            }
            arcs.get(arc)[2] = was;
            return answer;
        }

        private int machine(int machine, int b, int r) {
            if (outside(machine, 0, 1)) {
                return UNKNOWN;
            }
            if (outside(b, 0, 4) || outside(r, 0, 4)) {
                return OUTSIDE;
            }
            int was = 10 * chances[machine][0] + chances[machine][1];
            chances[machine] = new int[] {b, r};
            return was;
        }

        private int store(int b) {
            if (outside(b, 0, 6)) {
                return OUTSIDE;
            }
            int was = store;
            store = b;
            return was;
        }

        /** By how many are given, the chance of each: by what the first of the ticks left brings. */
        private Part[] spread(
                int ticks, boolean first, boolean second, int in, int most, Map<String, Part[]> known) {
            String key = ticks + " " + first + " " + second + " " + in;
            if (known.containsKey(key)) {
                return known.get(key);
            }
            Part[] all = new Part[11];
            Arrays.fill(all, Part.of(0, 1));
            if (ticks == 0) {
                all[0] = Part.of(1, 1);
            }
            for (int way = 0; way < 4 && ticks > 0; way++) {
                boolean firstNow = way % 2 == 1;
                boolean secondNow = way / 2 == 1;
                Part chance = chance(0, first, firstNow).times(chance(1, second, secondNow));
                int gives = 0;
                int inNow = in;
                if (firstNow && secondNow) {
                    gives = 1;
                } else if (secondNow && in > 0) {
                    gives = 1;
                    inNow--;
                } else if (firstNow && in < most) {
                    inNow++;
                }
                Part[] rest = spread(ticks - 1, firstNow, secondNow, inNow, most, known);
                for (int many = gives; many <= 10; many++) {
                    all[many] = all[many].plus(chance.times(rest[many - gives]));
                }
            }
            known.put(key, all);
            return all;
        }

        private Part chance(int machine, boolean was, boolean is) {
            int changes = chances[machine][was ? 0 : 1];
            return Part.of(was == is ? 4 - changes : changes, 4);
        }

        private Part mean(int ticks, int most) {
            Part[] all = spread(ticks, true, true, 0, most, new HashMap<>());
            Part mean = Part.of(0, 1);
            for (int many = 0; many <= 10; many++) {
                mean = mean.plus(all[many].times(Part.of(many, 1)));
            }
            return mean;
        }

        private long given(int ticks, boolean upper) {
            return outside(ticks, 1, 10) ? OUTSIDE : mean(ticks, store).half(upper);
        }

        private long just(int ticks, int many, boolean upper) {
            if (outside(ticks, 1, 10) || outside(many, 0, 10)) {
                return OUTSIDE;
            }
            return spread(ticks, true, true, 0, store, new HashMap<>())[many].half(upper);
        }

        private int least(int ticks, int above, int below) {
            if (outside(ticks, 1, 10) || outside(above, 1, 1000) || outside(below, 1, 1000)) {
                return OUTSIDE;
            }
            for (int most = 0; most <= 6; most++) {
                if (mean(ticks, most).compare(Part.of(above, below)) >= 0) {
                    return most;
                }
            }
            return NONE;
        }

        private int demand(int kind, int n) {
            if (outside(kind, 0, 5)) {
                return UNKNOWN;
            }
            if (outside(n, 0, 20)) {
                return OUTSIDE;
            }
            int was = demands[kind];
            demands[kind] = n;
            return was;
        }

        private int came(List<Integer> row, int kind) {
            return (int) row.stream().filter(one -> one == kind).count();
        }

        private List<Integer> row() {
            int n = total(4);
            List<Integer> row = new ArrayList<>();
            for (int place = 0; place < n; place++) {
                int next = -1;
                int greatest = 0;
                for (int kind = 5; kind >= 0; kind--) {
                    int came = came(row, kind);
                    int due = demands[kind] * (place + 1) - n * came;
                    if (came < demands[kind] && (next < 0 || due >= greatest)) {
                        next = kind;
                        greatest = due;
                    }
                }
                row.add(next);
            }
            return row;
        }

        private int at(int place) {
            List<Integer> row = row();
            return outside(place, 0, row.size() - 1) ? NONE : row.get(place);
        }

        private int rough() {
            List<Integer> row = row();
            int most = 0;
            for (int places = 1; places <= row.size(); places++) {
                for (int kind = 0; kind < 6; kind++) {
                    int came = came(row.subList(0, places), kind);
                    most = Math.max(most, Math.abs(row.size() * came - demands[kind] * places));
                }
            }
            return most;
        }

        private int changes() {
            List<Integer> row = row();
            int many = 0;
            for (int place = 1; place < row.size(); place++) {
                many += row.get(place).equals(row.get(place - 1)) ? 0 : 1;
            }
            return many;
        }

        int total(int what) {
            int sum = 0;
            switch (what) {
                case 0:
                    return times.size();
                case 1:
                    return arcs.size();
                case 2:
                    for (int[] arc : arcs) {
                        sum += arc[2];
                    }
                    return sum;
                case 3:
                    return store;
                case 4:
                    return Arrays.stream(demands).sum();
                case 5:
                    for (int station = 0; station < times.size(); station++) {
                        sum += ready(station) ? 1 : 0;
                    }
                    return sum;
                default:
                    return OUTSIDE;
            }
        }
    }
}
