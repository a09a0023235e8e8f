import java.util.Arrays;

/**
 * Lines of stations that are pulled by cards, two machines with a store between them, and kinds
 * laid level in a row. The document of the class tells what each call promises.
 *
 * <p>All arrays are made with the object and used again, so that no call makes any.
 */
public final class PullCards {
    public static final int UNKNOWN = -1, OUTSIDE = -2, STATE = -3, FULL = -4, NONE = -9;

    private static final int MOST_STATIONS = 8;
    private static final int MOST_TIME = 20;
    private static final int MOST_ARCS = 16;
    private static final int MOST_CARDS = 9;
    private static final int MOST_WORK = 60;
    private static final int MOST_STORE = 6;
    private static final int MOST_TICKS = 10;
    private static final int MOST_GIVEN = 10;
    private static final int QUARTERS = 4;
    private static final int MACHINES = 2;
    private static final int KINDS = 6;
    private static final int MOST_DEMAND = 20;
    private static final int MOST_TOLD = 1000;

    private final Line line;
    private final Loops loops;
    private final Works works;
    private final Pair pair;
    private final Row row;

    public PullCards() {
        line = new Line();
        loops = new Loops(line);
        works = new Works(line);
        pair = new Pair();
        row = new Row();
    }

    // ---- stations, arcs

    public int station(int time) {
        if (!within(time, 1, MOST_TIME)) {
            return OUTSIDE;
        }
        if (line.stations >= MOST_STATIONS) {
            return FULL;
        }
        loops.forgetNote();
        return line.addStation(time);
    }

    public int arc(int from, int to, int cards) {
        if (!line.hasStation(from) || !line.hasStation(to)) {
            return UNKNOWN;
        }
        if (!within(cards, 0, MOST_CARDS)) {
            return OUTSIDE;
        }
        if (line.arcs >= MOST_ARCS) {
            return FULL;
        }
        int arc = line.addArc(from, to, cards);
        loops.forgetNote();
        loops.find();
        return arc;
    }

    public int time(int station, int time) {
        if (!line.hasStation(station)) {
            return UNKNOWN;
        }
        if (!within(time, 1, MOST_TIME)) {
            return OUTSIDE;
        }
        int was = line.times[station];
        line.times[station] = time;
        return was;
    }

    public int put(int arc, int cards) {
        if (!line.hasArc(arc)) {
            return UNKNOWN;
        }
        if (!within(cards, 0, MOST_CARDS)) {
            return OUTSIDE;
        }
        int was = line.cards[arc];
        line.cards[arc] = cards;
        return was;
    }

    public int about(int arc, int what) {
        if (!line.hasArc(arc)) {
            return UNKNOWN;
        }
        switch (what) {
            case 0:
                return line.froms[arc];
            case 1:
                return line.tos[arc];
            case 2:
                return line.cards[arc];
            default:
                return OUTSIDE;
        }
    }

    public int ready(int station) {
        if (!line.hasStation(station)) {
            return UNKNOWN;
        }
        return line.isReady(station) ? 1 : 0;
    }

    public int fire(int station) {
        if (!line.hasStation(station)) {
            return UNKNOWN;
        }
        if (!line.isReady(station)) {
            return STATE;
        }
        if (!line.hasRoom(station)) {
            return FULL;
        }
        line.moveCards(station);
        return line.countReady();
    }

    public int round() {
        int fired = 0;
        for (int station = 0; station < line.stations; station++) {
            if (line.isReady(station) && line.hasRoom(station)) {
                line.moveCards(station);
                fired++;
            }
        }
        return fired;
    }

    // ---- loops

    public int loops() {
        return loops.many;
    }

    public int loop(int loop, int i) {
        if (!loops.has(loop)) {
            return UNKNOWN;
        }
        return loops.arcOf(loop, i);
    }

    public int sum(int loop, boolean cards) {
        if (!loops.has(loop)) {
            return UNKNOWN;
        }
        return cards ? loops.cardsOf(loop, line.cards) : loops.timeOf(loop);
    }

    public long pace(boolean upper) {
        int slowest = loops.findSlowest();
        if (!loops.has(slowest)) {
            return NONE;
        }
        int cards = loops.cardsOf(slowest, line.cards);
        if (cards == 0) {
            return NONE;
        }
        return inLeastTerms(loops.timeOf(slowest), cards, upper);
    }

    public int slowest() {
        return loops.findSlowest();
    }

    public int begins(int station, int k) {
        if (!line.hasStation(station)) {
            return UNKNOWN;
        }
        if (!within(k, 0, MOST_WORK)) {
            return OUTSIDE;
        }
        return works.beginning(station, k);
    }

    public int note() {
        loops.takeNote();
        return loops.many;
    }

    public int audit(boolean lost) {
        if (!loops.noteStands) {
            return STATE;
        }
        return loops.countChanged(lost);
    }

    public int cards(int arc, int above, int below) {
        if (!line.hasArc(arc)) {
            return UNKNOWN;
        }
        if (!within(above, 1, MOST_TOLD) || !within(below, 1, MOST_TOLD)) {
            return OUTSIDE;
        }
        return loops.cardsToReach(arc, above, below);
    }

    // ---- two machines

    public int machine(int machine, int b, int r) {
        if (!within(machine, 0, MACHINES - 1)) {
            return UNKNOWN;
        }
        if (!within(b, 0, QUARTERS) || !within(r, 0, QUARTERS)) {
            return OUTSIDE;
        }
        int was = 10 * pair.breaks[machine] + pair.repairs[machine];
        pair.breaks[machine] = b;
        pair.repairs[machine] = r;
        return was;
    }

    public int store(int b) {
        if (!within(b, 0, MOST_STORE)) {
            return OUTSIDE;
        }
        int was = pair.room;
        pair.room = b;
        return was;
    }

    public long given(int ticks, boolean upper) {
        if (!within(ticks, 1, MOST_TICKS)) {
            return OUTSIDE;
        }
        return inLeastTerms(pair.weighMean(ticks, pair.room), Pair.weightInAll(ticks), upper);
    }

    public long just(int ticks, int many, boolean upper) {
        if (!within(ticks, 1, MOST_TICKS) || !within(many, 0, MOST_GIVEN)) {
            return OUTSIDE;
        }
        return inLeastTerms(pair.weighCount(ticks, many), Pair.weightInAll(ticks), upper);
    }

    public int least(int ticks, int above, int below) {
        if (!within(ticks, 1, MOST_TICKS)) {
            return OUTSIDE;
        }
        if (!within(above, 1, MOST_TOLD) || !within(below, 1, MOST_TOLD)) {
            return OUTSIDE;
        }
        long wanted = above * Pair.weightInAll(ticks);
        for (int room = 0; room <= MOST_STORE; room++) {
            if (pair.weighMean(ticks, room) * below >= wanted) {
                return room;
            }
        }
        return NONE;
    }

    // ---- kinds

    public int demand(int kind, int n) {
        if (!within(kind, 0, KINDS - 1)) {
            return UNKNOWN;
        }
        if (!within(n, 0, MOST_DEMAND)) {
            return OUTSIDE;
        }
        int was = row.demands[kind];
        row.demands[kind] = n;
        row.lay();
        return was;
    }

    public int at(int place) {
        return within(place, 0, row.length - 1) ? row.kinds[place] : NONE;
    }

    public int rough() {
        return row.farthest;
    }

    public int changes() {
        return row.turns;
    }

    public int total(int what) {
        switch (what) {
            case 0:
                return line.stations;
            case 1:
                return line.arcs;
            case 2:
                return line.countCards();
            case 3:
                return pair.room;
            case 4:
                return row.length;
            case 5:
                return line.countReady();
            default:
                return OUTSIDE;
        }
    }

    private static boolean within(int number, int least, int most) {
        return number >= least && number <= most;
    }

    /** One half of above by below, both brought to least terms; below is 1 or more. */
    private static long inLeastTerms(long above, long below, boolean upper) {
        long divisor = commonDivisor(above, below);
        return upper ? above / divisor : below / divisor;
    }

    private static long commonDivisor(long one, long other) {
        long greater = one;
        long less = other;
        // Two numbers of 63 bits are at their divisor within 92 steps.
        for (int step = 0; step < 100 && less > 0; step++) {
            long rest = greater % less;
            greater = less;
            less = rest;
        }
        return Math.max(1, greater);
    }

    /** The stations and the arcs between them, with their cards. */
    private static final class Line {
        final int[] times = new int[MOST_STATIONS];
        final int[] froms = new int[MOST_ARCS];
        final int[] tos = new int[MOST_ARCS];
        final int[] cards = new int[MOST_ARCS];
        int stations;
        int arcs;

        boolean hasStation(int station) {
            return within(station, 0, stations - 1);
        }

        boolean hasArc(int arc) {
            return within(arc, 0, arcs - 1);
        }

        /** The caller has seen that there is room for one more. */
        int addStation(int time) {
            times[stations] = time;
            return stations++;
        }

        /** The caller has seen that there is room for one more. */
        int addArc(int from, int to, int many) {
            froms[arcs] = from;
            tos[arcs] = to;
            cards[arcs] = many;
            return arcs++;
        }

        boolean isReady(int station) {
            for (int arc = 0; arc < arcs; arc++) {
                if (tos[arc] == station && cards[arc] == 0) {
                    return false;
                }
            }
            return true;
        }

        /** Whether each arc that would get a card more can hold it. */
        boolean hasRoom(int station) {
            for (int arc = 0; arc < arcs; arc++) {
                boolean gains = froms[arc] == station && tos[arc] != station;
                if (gains && cards[arc] >= MOST_CARDS) {
                    return false;
                }
            }
            return true;
        }

        void moveCards(int station) {
            for (int arc = 0; arc < arcs; arc++) {
                if (tos[arc] == station) {
                    cards[arc]--;
                }
                if (froms[arc] == station) {
                    cards[arc]++;
                }
            }
        }

        int countReady() {
            int many = 0;
            for (int station = 0; station < stations; station++) {
                if (isReady(station)) {
                    many++;
                }
            }
            return many;
        }

        int countCards() {
            int many = 0;
            for (int arc = 0; arc < arcs; arc++) {
                many += cards[arc];
            }
            return many;
        }
    }

    /** The loops of a line, found anew when an arc comes, and the note of their cards. */
    private static final class Loops {
        /*
         * At each station that it passes, a loop takes one of the arcs from it; so those that pass a
         * told station are at most the greatest product of numbers whose sum is that of the arcs,
         * for 16 arcs 4 * 3 * 3 * 3 * 3 = 324. Let the told station be one of a loop of two arcs or
         * more: without it, at least two arcs are gone, and so on. All loops together are at most
         * 324 + 162 + 81 + 36 + 18 + 9 + 4 + 2 = 636.
         */
        private static final int MOST_LOOPS = 636;

        final Line line;
        /** Loop after loop, MOST_STATIONS elements for each. */
        final int[] rows = new int[MOST_LOOPS * MOST_STATIONS];
        final int[] lengths = new int[MOST_LOOPS];
        final int[] path = new int[MOST_STATIONS];
        int many;
        /** The cards of the arcs: with the same arcs the loops are the same, too. */
        final int[] notedCards = new int[MOST_ARCS];
        boolean noteStands;

        Loops(Line line) {
            this.line = line;
        }

        boolean has(int loop) {
            return within(loop, 0, many - 1);
        }

        void find() {
            many = 0;
            for (int start = 0; start < line.stations; start++) {
                extend(this, start, start, 0, 0);
            }
        }

        /**
         * Keeps all loops from start whose first arcs are on the path and lead to a station. Arcs
         * are tried by number, so that the loops come in the order of their rows.
         */
        private static void extend(Loops loops, int start, int at, int passed, int depth) {
            if (depth >= MOST_STATIONS) {
                return;
            }
            Line line = loops.line;
            for (int arc = 0; arc < line.arcs; arc++) {
                if (line.froms[arc] != at) {
                    continue;
                }
                int next = line.tos[arc];
                loops.path[depth] = arc;
                if (next == start) {
                    loops.keepPath(depth + 1);
                } else if (next > start && (passed >> next & 1) == 0) {
                    extend(loops, start, next, passed | 1 << next, depth + 1);
                }
            }
        }

        private void keepPath(int length) {
            if (many >= MOST_LOOPS) {
                return;
            }
            for (int i = 0; i < length; i++) {
                rows[many * MOST_STATIONS + i] = path[i];
            }
            lengths[many] = length;
            many++;
        }

        int arcOf(int loop, int i) {
            return within(i, 0, lengths[loop] - 1) ? rows[loop * MOST_STATIONS + i] : NONE;
        }

        int timeOf(int loop) {
            int time = 0;
            for (int i = 0; i < lengths[loop]; i++) {
                time += line.times[line.froms[rows[loop * MOST_STATIONS + i]]];
            }
            return time;
        }

        /** The cards of a loop, as they lie on the arcs by a table: those of now or those noted. */
        int cardsOf(int loop, int[] cards) {
            int sum = 0;
            for (int i = 0; i < lengths[loop]; i++) {
                sum += cards[rows[loop * MOST_STATIONS + i]];
            }
            return sum;
        }

        private boolean passes(int loop, int arc) {
            for (int i = 0; i < lengths[loop]; i++) {
                if (rows[loop * MOST_STATIONS + i] == arc) {
                    return true;
                }
            }
            return false;
        }

        int findSlowest() {
            int slowest = NONE;
            int time = 0;
            int cards = 1;
            for (int loop = 0; loop < many; loop++) {
                int loopTime = timeOf(loop);
                int loopCards = cardsOf(loop, line.cards);
                // Multiplied crosswise, a loop without cards is ahead of all with cards.
                if (loopTime * cards > time * loopCards) {
                    slowest = loop;
                    time = loopTime;
                    cards = loopCards;
                }
            }
            return slowest;
        }

        void forgetNote() {
            noteStands = false;
        }

        void takeNote() {
            System.arraycopy(line.cards, 0, notedCards, 0, MOST_ARCS);
            noteStands = true;
        }

        int countChanged(boolean lost) {
            int changed = 0;
            for (int loop = 0; loop < many; loop++) {
                int gained = cardsOf(loop, line.cards) - cardsOf(loop, notedCards);
                if (lost ? gained < 0 : gained > 0) {
                    changed++;
                }
            }
            return changed;
        }

        /** The least cards more on an arc that bring every loop to the pace; above is 1 or more. */
        int cardsToReach(int arc, int above, int below) {
            int more = 0;
            for (int loop = 0; loop < many; loop++) {
                int enough = (timeOf(loop) * below + above - 1) / above;
                int missing = enough - cardsOf(loop, line.cards);
                if (missing > 0 && !passes(loop, arc)) {
                    return NONE;
                }
                more = Math.max(more, missing);
            }
            return line.cards[arc] + more > MOST_CARDS ? NONE : more;
        }
    }

    /** When the works of the stations of a line begin. */
    private static final class Works {
        final Line line;
        /** Work after work, MOST_STATIONS elements for each. */
        final int[] beginnings = new int[(MOST_WORK + 1) * MOST_STATIONS];
        /** Arcs to the stations that can work at all, behind all arcs on which they wait. */
        final int[] order = new int[MOST_ARCS];
        int ordered;
        /** The stations that can work at all, a bit for each. */
        int able;

        Works(Line line) {
            this.line = line;
        }

        /** The beginning of work k of a station, both known to be such. */
        int beginning(int station, int k) {
            orderArcs();
            for (int work = 0; work <= k; work++) {
                beginAll(work);
            }
            return beginnings[k * MOST_STATIONS + station];
        }

        /** Work k of a station waits for work k of another one, where the arc has no cards. */
        private void orderArcs() {
            able = 0;
            ordered = 0;
            for (int pass = 0; pass < line.stations; pass++) {
                for (int station = 0; station < line.stations; station++) {
                    if ((able >> station & 1) == 0 && !waits(station)) {
                        able |= 1 << station;
                        orderArcsTo(station);
                    }
                }
            }
        }

        /** Whether an arc without cards comes from a station that is not known to be able. */
        private boolean waits(int station) {
            for (int arc = 0; arc < line.arcs; arc++) {
                boolean bare = line.tos[arc] == station && line.cards[arc] == 0;
                if (bare && (able >> line.froms[arc] & 1) == 0) {
                    return true;
                }
            }
            return false;
        }

        private void orderArcsTo(int station) {
            for (int arc = 0; arc < line.arcs; arc++) {
                if (line.tos[arc] == station && ordered < MOST_ARCS) {
                    order[ordered] = arc;
                    ordered++;
                }
            }
        }

        private void beginAll(int work) {
            int first = work * MOST_STATIONS;
            for (int station = 0; station < line.stations; station++) {
                beginnings[first + station] = (able >> station & 1) == 1 ? 0 : NONE;
            }
            for (int i = 0; i < ordered; i++) {
                int arc = order[i];
                if (work >= line.cards[arc]) {
                    int to = first + line.tos[arc];
                    beginnings[to] = later(beginnings[to], doneAt(arc, work));
                }
            }
        }

        /** When the work is done whose card comes by an arc for a work; NONE: never. */
        private int doneAt(int arc, int work) {
            int from = line.froms[arc];
            int begun = beginnings[(work - line.cards[arc]) * MOST_STATIONS + from];
            return begun == NONE ? NONE : begun + line.times[from];
        }

        private static int later(int one, int other) {
            return one == NONE || other == NONE ? NONE : Math.max(one, other);
        }
    }

    /**
     * Two machines and the store between them. Chances are told as weights: those of all that can
     * come in one tick are 16 together, so that all stays whole and exact.
     */
    private static final class Pair {
        /** Who is up: 1 the first, 2 the second; both together 3. */
        private static final int FIRST = 1, SECOND = 2, BOTH = 3, STATES = 4;
        private static final int LEVELS = MOST_STORE + 1;
        private static final int COUNTS = MOST_GIVEN + 1;

        final int[] breaks = new int[MACHINES];
        final int[] repairs = new int[MACHINES];
        int room;
        /** The weight of each change from a state to a state. */
        final int[] changeWeights = new int[STATES * STATES];
        /** By state, level of the store and how many were given. */
        long[] weights = new long[STATES * LEVELS * COUNTS];
        long[] nextWeights = new long[STATES * LEVELS * COUNTS];

        static long weightInAll(int ticks) {
            return 1L << 4 * ticks;
        }

        private static int cell(int state, int level, int count) {
            return (state * LEVELS + level) * COUNTS + count;
        }

        /** How many are given on the mean, times weightInAll. */
        long weighMean(int ticks, int most) {
            start();
            long mean = 0;
            for (int tick = 0; tick < ticks; tick++) {
                mean = mean * QUARTERS * QUARTERS + runTick(most, 0, false);
            }
            return mean;
        }

        /** The chance that just so many are given, times weightInAll. */
        long weighCount(int ticks, int many) {
            start();
            for (int tick = 0; tick < ticks; tick++) {
                runTick(room, many, true);
            }
            long weight = 0;
            for (int state = 0; state < STATES; state++) {
                for (int level = 0; level <= room; level++) {
                    weight += weights[cell(state, level, many)];
                }
            }
            return weight;
        }

        private void start() {
            for (int from = 0; from < STATES; from++) {
                for (int to = 0; to < STATES; to++) {
                    int first = quartersOf(0, (from & FIRST) != 0, (to & FIRST) != 0);
                    int second = quartersOf(1, (from & SECOND) != 0, (to & SECOND) != 0);
                    changeWeights[from * STATES + to] = first * second;
                }
            }
            Arrays.fill(weights, 0);
            weights[cell(BOTH, 0, 0)] = 1;
        }

        private int quartersOf(int machine, boolean wasUp, boolean isUp) {
            int toChange = wasUp ? breaks[machine] : repairs[machine];
            return wasUp == isUp ? QUARTERS - toChange : toChange;
        }

        /**
         * One tick for all that can be so far. Counted, what was given is told apart up to a most,
         * and what has more falls away; else all is held together. The weight of all by which one
         * is given now.
         */
        private long runTick(int most, int mostGiven, boolean counted) {
            Arrays.fill(nextWeights, 0);
            long given = 0;
            for (int state = 0; state < STATES; state++) {
                for (int level = 0; level <= most; level++) {
                    for (int count = 0; count <= mostGiven; count++) {
                        given += spread(state, level, count, most, mostGiven, counted);
                    }
                }
            }
            long[] old = weights;
            weights = nextWeights;
            nextWeights = old;
            return given;
        }

        private long spread(
                int state, int level, int count, int most, int mostGiven, boolean counted) {
            long weight = weights[cell(state, level, count)];
            if (weight == 0) {
                return 0;
            }
            long given = 0;
            for (int to = 0; to < STATES; to++) {
                long part = weight * changeWeights[state * STATES + to];
                int gives = gives(to, level);
                given += part * gives;
                int counts = counted ? count + gives : count;
                if (counts <= mostGiven) {
                    nextWeights[cell(to, levelAfter(to, level, most), counts)] += part;
                }
            }
            return given;
        }

        private static int gives(int state, int level) {
            return state == BOTH || state == SECOND && level > 0 ? 1 : 0;
        }

        private static int levelAfter(int state, int level, int most) {
            if (state == FIRST) {
                return Math.min(level + 1, most);
            }
            if (state == SECOND) {
                return Math.max(level - 1, 0);
            }
            return level;
        }
    }

    /** The kinds in their row, laid anew when a demand changes. */
    private static final class Row {
        final int[] demands = new int[KINDS];
        final int[] came = new int[KINDS];
        final int[] kinds = new int[KINDS * MOST_DEMAND];
        int length;
        int farthest;
        int turns;

        void lay() {
            length = 0;
            for (int kind = 0; kind < KINDS; kind++) {
                length += demands[kind];
                came[kind] = 0;
            }
            farthest = 0;
            turns = 0;
            for (int place = 0; place < length; place++) {
                int kind = nextKind(place);
                if (kind < 0) {
                    return;
                }
                kinds[place] = kind;
                came[kind]++;
                farthest = Math.max(farthest, farthestAfter(place + 1));
                if (place > 0 && kinds[place - 1] != kind) {
                    turns++;
                }
            }
        }

        private int nextKind(int place) {
            int next = NONE;
            int greatest = 0;
            for (int kind = 0; kind < KINDS; kind++) {
                int due = demands[kind] * (place + 1) - length * came[kind];
                boolean left = came[kind] < demands[kind];
                if (left && (next == NONE || due > greatest)) {
                    next = kind;
                    greatest = due;
                }
            }
            return next;
        }

        private int farthestAfter(int places) {
            int most = 0;
            for (int kind = 0; kind < KINDS; kind++) {
                most = Math.max(most, Math.abs(length * came[kind] - demands[kind] * places));
            }
            return most;
        }
    }
}
