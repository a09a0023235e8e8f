/** Each promise of the document by answers worked out by hand: ordinary, at the edges, refused. */
public final class PromiseTest {
    private static final int UNKNOWN = -1, OUTSIDE = -2, STATE = -3, FULL = -4, NONE = -9;
    private static final int LOW = Integer.MIN_VALUE, HIGH = Integer.MAX_VALUE;
    private static int wrong = 0;
    private static int promise = 0;

    private static void due(String call, long got, long want) {
        if (got != want) {
            wrong++;
            System.out.println(
                    "promise " + promise + ": " + call + " answered " + got + ", due is " + want);
        }
    }

    public static void main(String[] args) {
        promise1NewObject();
        promise2Station();
        promise3Arc();
        promise4Time();
        promise5Put();
        promise6About();
        promise7Ready();
        promise8Fire();
        promise9Round();
        promise10Loops();
        promise11Loop();
        promise12Sum();
        promise13Pace();
        promise14Slowest();
        promise15Begins();
        promise16Note();
        promise17Audit();
        promise18Cards();
        promise19Machine();
        promise20Store();
        promise21Given();
        promise22Just();
        promise23Least();
        promise24Demand();
        promise25At();
        promise26Rough();
        promise27Changes();
        promise28Total();
        refusedChangesNothing();
        allThatThereCanBe();
        System.out.println(wrong == 0 ? "all promises hold" : wrong + " answers are not as due");
        if (wrong != 0) {
            System.exit(1);
        }
    }

    /** Stations with the told times. */
    private static PullCards stations(int... times) {
        PullCards x = new PullCards();
        for (int time : times) {
            x.station(time);
        }
        return x;
    }

    /** Two stations, of 3 and 4 ticks, with an arc to and one fro. */
    private static PullCards pair(int there, int back) {
        PullCards x = stations(3, 4);
        x.arc(0, 1, there);
        x.arc(1, 0, back);
        return x;
    }

    private static PullCards machines(int b0, int r0, int b1, int r1, int store) {
        PullCards x = new PullCards();
        x.machine(0, b0, r0);
        x.machine(1, b1, r1);
        x.store(store);
        return x;
    }

    private static PullCards demands(int... demands) {
        PullCards x = new PullCards();
        for (int kind = 0; kind < demands.length; kind++) {
            x.demand(kind, demands[kind]);
        }
        return x;
    }

    private static void promise1NewObject() {
        promise = 1;
        PullCards x = new PullCards();
        for (int what = 0; what < 6; what++) {
            due("total(" + what + ")", x.total(what), 0);
        }
        due("ready(0)", x.ready(0), UNKNOWN);
        due("about(0, 0)", x.about(0, 0), UNKNOWN);
        due("round()", x.round(), 0);
        due("loops()", x.loops(), 0);
        due("audit(true)", x.audit(true), STATE);
        due("given(10, true)", x.given(10, true), 10);
        due("given(10, false)", x.given(10, false), 1);
        due("at(0)", x.at(0), NONE);
        due("rough()", x.rough(), 0);
        due("changes()", x.changes(), 0);
        due("machine(0, 1, 1)", x.machine(0, 1, 1), 0);
        due("machine(1, 1, 1)", x.machine(1, 1, 1), 0);
        due("store(1)", x.store(1), 0);
        for (int kind = 0; kind < 6; kind++) {
            due("demand(kind, 1)", x.demand(kind, 1), 0);
        }
        due("another one's total(3)", new PullCards().total(3), 0);
        due("another one's at(0)", new PullCards().at(0), NONE);
        due("UNKNOWN", PullCards.UNKNOWN, UNKNOWN);
        due("OUTSIDE", PullCards.OUTSIDE, OUTSIDE);
        due("STATE", PullCards.STATE, STATE);
        due("FULL", PullCards.FULL, FULL);
        due("NONE", PullCards.NONE, NONE);
    }

    private static void promise2Station() {
        promise = 2;
        PullCards x = new PullCards();
        due("station(0)", x.station(0), OUTSIDE);
        due("station(21)", x.station(21), OUTSIDE);
        due("station(LOW)", x.station(LOW), OUTSIDE);
        due("station(HIGH)", x.station(HIGH), OUTSIDE);
        for (int number = 0; number < 8; number++) {
            due("station", x.station(number == 0 ? 1 : 20), number);
        }
        due("station(1)", x.station(1), FULL);
        due("station(20)", x.station(20), FULL);
        due("station(0), full", x.station(0), OUTSIDE);
        due("station(21), full", x.station(21), OUTSIDE);
        due("time(0, 2)", x.time(0, 2), 1);
        due("time(7, 2)", x.time(7, 2), 20);
        due("total(0)", x.total(0), 8);
    }

    private static void promise3Arc() {
        promise = 3;
        PullCards x = new PullCards();
        due("arc(0, 0, 0)", x.arc(0, 0, 0), UNKNOWN);
        x.station(1);
        x.station(1);
        due("arc(-1, 0, 0)", x.arc(-1, 0, 0), UNKNOWN);
        due("arc(2, 0, 0)", x.arc(2, 0, 0), UNKNOWN);
        due("arc(0, -1, 0)", x.arc(0, -1, 0), UNKNOWN);
        due("arc(0, 2, 0)", x.arc(0, 2, 0), UNKNOWN);
        due("arc(0, 2, 10)", x.arc(0, 2, 10), UNKNOWN);
        due("arc(LOW, 0, 10)", x.arc(LOW, 0, 10), UNKNOWN);
        due("arc(0, HIGH, 10)", x.arc(0, HIGH, 10), UNKNOWN);
        due("arc(0, 1, -1)", x.arc(0, 1, -1), OUTSIDE);
        due("arc(0, 1, 10)", x.arc(0, 1, 10), OUTSIDE);
        for (int number = 0; number < 16; number++) {
            due("arc", x.arc(number % 2, 1, number % 10), number);
        }
        due("arc(0, 1, 0), full", x.arc(0, 1, 0), FULL);
        due("arc(0, 1, 10), full", x.arc(0, 1, 10), OUTSIDE);
        due("arc(0, 2, 10), full", x.arc(0, 2, 10), UNKNOWN);
        due("total(1)", x.total(1), 16);
        due("about(15, 0)", x.about(15, 0), 1);
        due("about(14, 0)", x.about(14, 0), 0);
        due("about(14, 1)", x.about(14, 1), 1);
        due("about(9, 2)", x.about(9, 2), 9);
    }

    private static void promise4Time() {
        promise = 4;
        PullCards x = pair(1, 1);
        due("time(2, 1)", x.time(2, 1), UNKNOWN);
        due("time(2, 0)", x.time(2, 0), UNKNOWN);
        due("time(-1, 21)", x.time(-1, 21), UNKNOWN);
        due("time(0, 0)", x.time(0, 0), OUTSIDE);
        due("time(0, 21)", x.time(0, 21), OUTSIDE);
        due("time(0, 20)", x.time(0, 20), 3);
        due("time(0, 1)", x.time(0, 1), 20);
        due("time(1, 5)", x.time(1, 5), 4);
        due("sum(0, false)", x.sum(0, false), 6);
        due("pace(true)", x.pace(true), 3);
        due("begins(0, 2)", x.begins(0, 2), 6);
    }

    private static void promise5Put() {
        promise = 5;
        PullCards x = pair(1, 0);
        due("put(2, 1)", x.put(2, 1), UNKNOWN);
        due("put(2, 10)", x.put(2, 10), UNKNOWN);
        due("put(-1, -1)", x.put(-1, -1), UNKNOWN);
        due("put(0, 10)", x.put(0, 10), OUTSIDE);
        due("put(0, -1)", x.put(0, -1), OUTSIDE);
        due("put(0, 9)", x.put(0, 9), 1);
        due("put(0, 0)", x.put(0, 0), 9);
        due("put(1, 5)", x.put(1, 5), 0);
        due("about(0, 2)", x.about(0, 2), 0);
        due("about(1, 2)", x.about(1, 2), 5);
        due("sum(0, true)", x.sum(0, true), 5);
    }

    private static void promise6About() {
        promise = 6;
        PullCards x = stations(1, 1, 1);
        x.arc(2, 1, 7);
        x.arc(0, 2, 0);
        due("about(0, 0)", x.about(0, 0), 2);
        due("about(0, 1)", x.about(0, 1), 1);
        due("about(0, 2)", x.about(0, 2), 7);
        due("about(1, 0)", x.about(1, 0), 0);
        due("about(1, 1)", x.about(1, 1), 2);
        due("about(1, 2)", x.about(1, 2), 0);
        due("about(0, 3)", x.about(0, 3), OUTSIDE);
        due("about(0, -1)", x.about(0, -1), OUTSIDE);
        due("about(2, 0)", x.about(2, 0), UNKNOWN);
        due("about(2, 3)", x.about(2, 3), UNKNOWN);
        due("about(-1, 3)", x.about(-1, 3), UNKNOWN);
    }

    private static void promise7Ready() {
        promise = 7;
        PullCards x = stations(1, 1, 1);
        due("ready(2), no arc to it", x.ready(2), 1);
        x.arc(0, 2, 1);
        due("ready(2), a card", x.ready(2), 1);
        x.arc(1, 2, 0);
        due("ready(2), one of two", x.ready(2), 0);
        x.put(1, 3);
        due("ready(2), both", x.ready(2), 1);
        x.arc(2, 2, 0);
        due("ready(2), bare arc to itself", x.ready(2), 0);
        x.put(2, 1);
        due("ready(2), card to itself", x.ready(2), 1);
        due("ready(0), arcs from it alone", x.ready(0), 1);
        due("ready(3)", x.ready(3), UNKNOWN);
        due("ready(-1)", x.ready(-1), UNKNOWN);
    }

    private static void promise8Fire() {
        promise = 8;
        PullCards x = pair(2, 0);
        due("fire(2)", x.fire(2), UNKNOWN);
        due("fire(-1)", x.fire(-1), UNKNOWN);
        due("fire(0)", x.fire(0), STATE);
        due("fire(1)", x.fire(1), 2);
        due("about(0, 2)", x.about(0, 2), 1);
        due("about(1, 2)", x.about(1, 2), 1);
        due("fire(1)", x.fire(1), 1);
        due("fire(1)", x.fire(1), STATE);
        due("about(0, 2)", x.about(0, 2), 0);
        due("about(1, 2)", x.about(1, 2), 2);

        PullCards full = stations(1, 1, 1);
        full.arc(0, 1, 9);
        full.arc(0, 2, 3);
        full.arc(2, 0, 4);
        due("fire(0), no room", full.fire(0), FULL);
        due("about(1, 2)", full.about(1, 2), 3);
        due("about(2, 2)", full.about(2, 2), 4);
        full.put(2, 0);
        due("fire(0), not ready and no room", full.fire(0), STATE);

        PullCards own = stations(1, 1);
        own.arc(0, 0, 9);
        own.arc(0, 1, 8);
        due("fire(0), 9 to itself", own.fire(0), 2);
        due("about(0, 2)", own.about(0, 2), 9);
        due("about(1, 2)", own.about(1, 2), 9);
        due("fire(0), no room now", own.fire(0), FULL);
        own.put(0, 0);
        due("fire(0), bare arc to itself", own.fire(0), STATE);

        PullCards twice = stations(1, 1);
        twice.arc(0, 1, 0);
        twice.arc(0, 1, 5);
        due("fire(0), two arcs", twice.fire(0), 2);
        due("about(0, 2)", twice.about(0, 2), 1);
        due("about(1, 2)", twice.about(1, 2), 6);
        due("fire(1), two arcs", twice.fire(1), 1);
        due("about(0, 2)", twice.about(0, 2), 0);
        due("about(1, 2)", twice.about(1, 2), 5);
    }

    private static void promise9Round() {
        promise = 9;
        PullCards x = pair(0, 1);
        due("round(), 0 makes 1 ready", x.round(), 2);
        due("about(0, 2)", x.about(0, 2), 0);
        due("about(1, 2)", x.about(1, 2), 1);
        PullCards y = pair(1, 0);
        due("round(), 0's turn comes too soon", y.round(), 1);
        due("about(0, 2)", y.about(0, 2), 0);
        due("about(1, 2)", y.about(1, 2), 1);
        PullCards z = pair(9, 1);
        due("round(), 0 has no room", z.round(), 1);
        due("about(0, 2)", z.about(0, 2), 8);
        due("about(1, 2)", z.about(1, 2), 2);
        due("round()", z.round(), 2);
        PullCards dead = pair(0, 0);
        due("round(), dead", dead.round(), 0);
        due("round(), no arcs", stations(1, 2, 3).round(), 3);
    }

    private static void promise10Loops() {
        promise = 10;
        PullCards x = stations(1, 1, 1);
        due("loops(), no arc", x.loops(), 0);
        x.arc(0, 1, 0);
        x.arc(1, 2, 0);
        due("loops(), no way back", x.loops(), 0);
        x.arc(2, 0, 0);
        due("loops(), one ring", x.loops(), 1);
        x.arc(2, 0, 0);
        due("loops(), two ways back", x.loops(), 2);
        x.arc(1, 1, 0);
        due("loops(), one to itself", x.loops(), 3);
        x.arc(1, 0, 0);
        due("loops(), a shorter one", x.loops(), 4);
        x.arc(0, 3, 0);
        due("loops(), after a refusal", x.loops(), 4);

        PullCards most = stations(1, 1, 1, 1, 1);
        most.arc(0, 1, 0);
        for (int from = 0; from < 5; from++) {
            for (int i = 0; i < 3; i++) {
                most.arc(from, (from + 1) % 5, 0);
            }
        }
        due("loops(), 4 * 3 * 3 * 3 * 3", most.loops(), 324);

        PullCards wide = new PullCards();
        for (int i = 0; i < 8; i++) {
            wide.station(1);
        }
        for (int i = 0; i < 16; i++) {
            wide.arc(i % 8, (i + 1) % 8, 1);
        }
        due("loops(), 2 to the 8th", wide.loops(), 256);
        due("loop(255, 7)", wide.loop(255, 7), 15);

        PullCards own = stations(1);
        for (int i = 0; i < 16; i++) {
            own.arc(0, 0, 0);
        }
        due("loops(), all to itself", own.loops(), 16);
    }

    private static void promise11Loop() {
        promise = 11;
        PullCards x = stations(1, 1, 1);
        due("loop(0, 0)", x.loop(0, 0), UNKNOWN);
        x.arc(2, 1, 0);
        x.arc(1, 0, 0);
        x.arc(0, 2, 0);
        x.arc(1, 2, 0);
        x.arc(0, 2, 0);
        x.arc(2, 2, 0);
        int[][] want = {{2, 0, 1}, {4, 0, 1}, {3, 0}, {5}};
        due("loops()", x.loops(), want.length);
        for (int loop = 0; loop < want.length; loop++) {
            for (int i = 0; i < want[loop].length; i++) {
                due("loop(" + loop + ", " + i + ")", x.loop(loop, i), want[loop][i]);
            }
            due("loop(" + loop + ", its length)", x.loop(loop, want[loop].length), NONE);
            due("loop(" + loop + ", -1)", x.loop(loop, -1), NONE);
        }
        due("loop(0, HIGH)", x.loop(0, HIGH), NONE);
        due("loop(0, LOW)", x.loop(0, LOW), NONE);
        due("loop(4, 0)", x.loop(4, 0), UNKNOWN);
        due("loop(-1, 0)", x.loop(-1, 0), UNKNOWN);
        due("loop(-1, -1)", x.loop(-1, -1), UNKNOWN);

        // The shorter row is not ahead: the first arc that is unlike tells.
        PullCards y = stations(1, 1, 1);
        y.arc(0, 1, 0);
        y.arc(1, 2, 0);
        y.arc(2, 0, 0);
        y.arc(1, 0, 0);
        due("loop(0, 1)", y.loop(0, 1), 1);
        due("loop(0, 2)", y.loop(0, 2), 2);
        due("loop(1, 1)", y.loop(1, 1), 3);
        due("loop(1, 2)", y.loop(1, 2), NONE);
    }

    private static void promise12Sum() {
        promise = 12;
        PullCards x = stations(3, 5, 7);
        due("sum(0, true)", x.sum(0, true), UNKNOWN);
        x.arc(0, 1, 1);
        x.arc(1, 2, 2);
        x.arc(2, 0, 4);
        x.arc(1, 0, 9);
        x.arc(2, 2, 6);
        due("sum(0, true)", x.sum(0, true), 7);
        due("sum(0, false)", x.sum(0, false), 15);
        due("sum(1, true)", x.sum(1, true), 10);
        due("sum(1, false)", x.sum(1, false), 8);
        due("sum(2, true)", x.sum(2, true), 6);
        due("sum(2, false)", x.sum(2, false), 7);
        due("sum(3, false)", x.sum(3, false), UNKNOWN);
        due("sum(-1, true)", x.sum(-1, true), UNKNOWN);
        x.fire(0);
        due("sum(0, true), fired", x.sum(0, true), 7);
        due("sum(1, true), fired", x.sum(1, true), 10);
        x.put(3, 0);
        due("sum(1, true), put", x.sum(1, true), 2);
    }

    private static void promise13Pace() {
        promise = 13;
        PullCards x = stations(3, 5);
        due("pace(true), no loop", x.pace(true), NONE);
        x.arc(0, 1, 1);
        due("pace(false), no loop", x.pace(false), NONE);
        x.arc(1, 0, 3);
        due("pace(true), 8 by 4", x.pace(true), 2);
        due("pace(false), 8 by 4", x.pace(false), 1);
        x.put(1, 5);
        due("pace(true), 8 by 6", x.pace(true), 4);
        due("pace(false), 8 by 6", x.pace(false), 3);
        x.arc(0, 0, 2);
        due("pace(true), 3 by 2", x.pace(true), 3);
        due("pace(false), 3 by 2", x.pace(false), 2);
        x.arc(1, 1, 0);
        due("pace(true), dead", x.pace(true), NONE);
        due("pace(false), dead", x.pace(false), NONE);
        x.put(3, 9);
        due("pace(true), no more dead", x.pace(true), 3);
        PullCards quick = stations(1);
        quick.arc(0, 0, 9);
        due("pace(true), 1 by 9", quick.pace(true), 1);
        due("pace(false), 1 by 9", quick.pace(false), 9);
    }

    private static void promise14Slowest() {
        promise = 14;
        PullCards x = stations(4, 6, 2);
        due("slowest(), no loop", x.slowest(), NONE);
        x.arc(0, 0, 2);
        x.arc(1, 1, 3);
        x.arc(2, 2, 1);
        due("slowest(), the first of three alike", x.slowest(), 0);
        x.put(2, 2);
        x.put(1, 2);
        due("slowest(), 6 by 2", x.slowest(), 1);
        x.put(2, 0);
        due("slowest(), dead", x.slowest(), 2);
        x.put(1, 0);
        due("slowest(), the first dead", x.slowest(), 1);
        x.put(1, 9);
        x.put(2, 1);
        due("slowest(), 4 by 2 and 2 by 1", x.slowest(), 0);
        x.put(0, 3);
        due("slowest(), 2 by 1", x.slowest(), 2);
        PullCards quick = stations(1, 2);
        quick.arc(0, 0, 9);
        due("slowest(), 1 by 9", quick.slowest(), 0);
        quick.arc(1, 1, 9);
        due("slowest(), 2 by 9", quick.slowest(), 1);
    }

    private static void promise15Begins() {
        promise = 15;
        PullCards x = pair(1, 1);
        int[] first = {0, 4, 7, 11};
        int[] second = {0, 3, 7, 10};
        for (int k = 0; k < first.length; k++) {
            due("begins(0, " + k + ")", x.begins(0, k), first[k]);
            due("begins(1, " + k + ")", x.begins(1, k), second[k]);
        }
        due("begins(0, 60)", x.begins(0, 60), 210);
        due("begins(0, 61)", x.begins(0, 61), OUTSIDE);
        due("begins(0, -1)", x.begins(0, -1), OUTSIDE);
        due("begins(2, 0)", x.begins(2, 0), UNKNOWN);
        due("begins(2, 61)", x.begins(2, 61), UNKNOWN);
        due("begins(-1, -1)", x.begins(-1, -1), UNKNOWN);

        // A dead pair, and a station that has two cards from it.
        PullCards dead = stations(1, 1, 1, 1);
        dead.arc(0, 1, 0);
        dead.arc(1, 0, 0);
        dead.arc(1, 2, 2);
        dead.arc(2, 3, 1);
        due("begins(0, 0), dead", dead.begins(0, 0), NONE);
        due("begins(1, 60), dead", dead.begins(1, 60), NONE);
        due("begins(2, 1), by cards", dead.begins(2, 1), 0);
        due("begins(2, 2), of the dead", dead.begins(2, 2), NONE);
        due("begins(3, 0)", dead.begins(3, 0), 0);
        due("begins(3, 2)", dead.begins(3, 2), 1);
        due("begins(3, 3)", dead.begins(3, 3), NONE);

        // Bare arcs against the numbers: work k waits for work k.
        PullCards row = stations(2, 3, 5);
        row.arc(2, 1, 0);
        row.arc(1, 0, 0);
        due("begins(2, 7)", row.begins(2, 7), 0);
        due("begins(1, 7)", row.begins(1, 7), 5);
        due("begins(0, 7)", row.begins(0, 7), 8);
        row.arc(2, 2, 1);
        due("begins(0, 7), one after the other", row.begins(0, 7), 43);
        row.arc(0, 0, 0);
        due("begins(0, 0), bare arc to itself", row.begins(0, 0), NONE);
        due("begins(1, 0)", row.begins(1, 0), 5);

        // The longest that can come: a ring of eight with one card, 20 ticks each.
        PullCards ring = new PullCards();
        for (int i = 0; i < 8; i++) {
            ring.station(20);
        }
        for (int i = 0; i < 8; i++) {
            ring.arc(i, (i + 1) % 8, i == 7 ? 1 : 0);
        }
        due("begins(7, 60)", ring.begins(7, 60), 9740);
        due("begins(0, 0)", ring.begins(0, 0), 0);

        // With as many arcs as there can be, the last one in turn still counts.
        PullCards many = stations(1, 1);
        for (int i = 0; i < 15; i++) {
            many.arc(0, 0, 9);
        }
        many.arc(0, 1, 0);
        due("begins(1, 0), 16 arcs", many.begins(1, 0), 1);
        due("begins(1, 60), 16 arcs", many.begins(1, 60), 7);
    }

    private static void promise16Note() {
        promise = 16;
        PullCards x = pair(2, 2);
        due("note()", x.note(), 1);
        x.put(0, 1);
        due("audit(true)", x.audit(true), 1);
        due("note(), instead of what was", x.note(), 1);
        due("audit(true)", x.audit(true), 0);
        x.arc(0, 0, 1);
        due("note()", x.note(), 2);
        due("note(), no loop", new PullCards().note(), 0);
    }

    private static void promise17Audit() {
        promise = 17;
        PullCards x = stations(1, 1, 1);
        due("audit(true), nothing noted", x.audit(true), STATE);
        due("audit(false), nothing noted", x.audit(false), STATE);
        x.arc(0, 1, 1);
        x.arc(1, 0, 1);
        x.arc(1, 2, 1);
        x.arc(2, 0, 1);
        x.note();
        x.fire(0);
        x.round();
        due("audit(true), fired", x.audit(true), 0);
        due("audit(false), fired", x.audit(false), 0);
        int on0 = x.about(0, 2);
        x.put(0, on0 + 1);
        due("audit(true), a card more", x.audit(true), 0);
        due("audit(false), a card more", x.audit(false), 2);
        int on1 = x.about(1, 2);
        x.put(1, on1 - 1);
        due("audit(false), one lost its own", x.audit(false), 1);
        x.put(0, on0);
        due("audit(true)", x.audit(true), 1);
        due("audit(false)", x.audit(false), 0);
        x.station(0);
        x.arc(0, 3, 1);
        x.time(0, 7);
        due("audit(true), after refusals", x.audit(true), 1);
        x.station(1);
        due("audit(true), a station came", x.audit(true), STATE);
        x.note();
        due("audit(true), noted again", x.audit(true), 0);
        x.arc(3, 0, 1);
        due("audit(false), an arc came", x.audit(false), STATE);
        PullCards many = stations(1);
        for (int i = 0; i < 16; i++) {
            many.arc(0, 0, 5);
        }
        many.note();
        due("audit(false), 16 arcs", many.audit(false), 0);
        many.put(15, 4);
        due("audit(true), 16 arcs", many.audit(true), 1);
        PullCards none = new PullCards();
        none.note();
        due("audit(true), none noted down", none.audit(true), 0);
    }

    private static void promise18Cards() {
        promise = 18;
        PullCards x = pair(0, 0);
        due("cards(2, 1, 1)", x.cards(2, 1, 1), UNKNOWN);
        due("cards(2, 0, 0)", x.cards(2, 0, 0), UNKNOWN);
        due("cards(-1, 1, 1)", x.cards(-1, 1, 1), UNKNOWN);
        due("cards(0, 0, 1)", x.cards(0, 0, 1), OUTSIDE);
        due("cards(0, 1, 0)", x.cards(0, 1, 0), OUTSIDE);
        due("cards(0, 1001, 1)", x.cards(0, 1001, 1), OUTSIDE);
        due("cards(0, 1, 1001)", x.cards(0, 1, 1001), OUTSIDE);
        due("cards(0, 1000, 1), dead", x.cards(0, 1000, 1), 1);
        due("cards(0, 7, 1)", x.cards(0, 7, 1), 1);
        due("cards(0, 6, 1)", x.cards(0, 6, 1), 2);
        due("cards(0, 7, 9)", x.cards(0, 7, 9), 9);
        due("cards(0, 7, 10)", x.cards(0, 7, 10), NONE);
        due("cards(0, 1, 1000)", x.cards(0, 1, 1000), NONE);
        x.put(0, 3);
        due("cards(0, 7, 9), 3 there", x.cards(0, 7, 9), 6);
        due("cards(1, 7, 9), 3 on the other", x.cards(1, 7, 9), 6);
        due("cards(1, 7, 12)", x.cards(1, 7, 12), 9);
        due("cards(0, 7, 10)", x.cards(0, 7, 10), NONE);
        due("cards(0, 7, 3), it is so now", x.cards(0, 7, 3), 0);
        due("about(0, 2), nothing changes", x.about(0, 2), 3);
        x.arc(1, 1, 1);
        due("cards(0, 4, 1), another loop", x.cards(0, 4, 1), 0);
        due("cards(0, 399, 100), another loop", x.cards(0, 399, 100), NONE);
        x.put(2, 0);
        due("cards(0, 1000, 1), another is dead", x.cards(0, 1000, 1), NONE);
        due("cards(2, 1000, 1)", x.cards(2, 1000, 1), 1);
        PullCards line = stations(20, 20);
        line.arc(0, 1, 0);
        due("cards(0, 1, 1000), no loop", line.cards(0, 1, 1000), 0);
    }

    private static void promise19Machine() {
        promise = 19;
        PullCards x = new PullCards();
        due("machine(2, 0, 0)", x.machine(2, 0, 0), UNKNOWN);
        due("machine(-1, 5, 0)", x.machine(-1, 5, 0), UNKNOWN);
        due("machine(0, 5, 0)", x.machine(0, 5, 0), OUTSIDE);
        due("machine(0, 0, 5)", x.machine(0, 0, 5), OUTSIDE);
        due("machine(0, -1, 0)", x.machine(0, -1, 0), OUTSIDE);
        due("machine(0, 0, -1)", x.machine(0, 0, -1), OUTSIDE);
        due("machine(0, 3, 4)", x.machine(0, 3, 4), 0);
        due("machine(1, 4, 1)", x.machine(1, 4, 1), 0);
        due("machine(0, 0, 0)", x.machine(0, 0, 0), 34);
        due("machine(1, 0, 0)", x.machine(1, 0, 0), 41);
    }

    private static void promise20Store() {
        promise = 20;
        PullCards x = new PullCards();
        due("store(7)", x.store(7), OUTSIDE);
        due("store(-1)", x.store(-1), OUTSIDE);
        due("store(6)", x.store(6), 0);
        due("store(1)", x.store(1), 6);
        due("store(1)", x.store(1), 1);
    }

    /**
     * The first works for f ticks, f or more by 1 by 2 to the f, and never again; the second at each
     * other tick. So the store fills at ticks 1, 3, .. to the f-th, and after it is emptied at ticks
     * 2, 4, ..: with room enough all that the first makes is given, 5 at most in ten ticks; with
     * B 2, f = 5 gives 4; with B 1, f = 3 gives 2.
     */
    private static PullCards lasting(int store) {
        return machines(2, 0, 4, 4, store);
    }

    private static void promise21Given() {
        promise = 21;
        PullCards x = machines(2, 2, 0, 0, 0);
        due("given(0, true)", x.given(0, true), OUTSIDE);
        due("given(11, false)", x.given(11, false), OUTSIDE);
        due("given(LOW, true)", x.given(LOW, true), OUTSIDE);
        due("given(3, true)", x.given(3, true), 3);
        due("given(3, false)", x.given(3, false), 2);
        PullCards down = machines(4, 0, 4, 0, 6);
        due("given(10, true), all down", down.given(10, true), 0);
        due("given(10, false), all down", down.given(10, false), 1);
        // The second is up at each other tick; the first fills the store, but is up at these, too.
        PullCards turns = machines(0, 0, 4, 4, 6);
        due("given(10, true), second by turns", turns.given(10, true), 5);
        due("given(10, false), second by turns", turns.given(10, false), 1);
        // First: 1 2 3 .. down, up, down; second: up down up. What the first makes, the second takes.
        PullCards against = machines(4, 4, 0, 0, 1);
        due("given(9, true), first by turns", against.given(9, true), 4);
        // The first is always up, the second at one tick of two.
        PullCards half = machines(0, 2, 2, 2, 1);
        due("given(2, true)", half.given(2, true), 1);
        due("given(2, false)", half.given(2, false), 1);
        PullCards store = machines(2, 0, 2, 4, 1);
        // Tick 1: each up by 1/2, both by 1/4. Tick 2: after both, both by 1/4, the second alone for
        // nothing; after the first alone (1/4), the second is up: both by 1/2, out of the store by
        // 1/2; after the second alone or none, nothing. In all 1/4 + 1/16 + 1/4 = 9/16.
        due("given(1, true)", store.given(1, true), 1);
        due("given(1, false)", store.given(1, false), 4);
        due("given(2, true)", store.given(2, true), 9);
        due("given(2, false)", store.given(2, false), 16);
        store.store(0);
        due("given(2, true), no store", store.given(2, true), 7);
        due("given(2, false), no store", store.given(2, false), 16);
        PullCards last = lasting(3);
        due("given(10, true), B 3", last.given(10, true), 31);
        due("given(10, false), B 3", last.given(10, false), 32);
        last.store(2);
        due("given(10, true), B 2", last.given(10, true), 61);
        due("given(10, false), B 2", last.given(10, false), 64);
    }

    private static void promise22Just() {
        promise = 22;
        PullCards x = machines(2, 0, 2, 4, 1);
        due("just(0, 0, true)", x.just(0, 0, true), OUTSIDE);
        due("just(11, 0, true)", x.just(11, 0, true), OUTSIDE);
        due("just(1, -1, true)", x.just(1, -1, true), OUTSIDE);
        due("just(1, 11, false)", x.just(1, 11, false), OUTSIDE);
        due("just(1, 0, true)", x.just(1, 0, true), 3);
        due("just(1, 0, false)", x.just(1, 0, false), 4);
        due("just(1, 1, true)", x.just(1, 1, true), 1);
        due("just(1, 1, false)", x.just(1, 1, false), 4);
        due("just(1, 2, true)", x.just(1, 2, true), 0);
        due("just(1, 2, false)", x.just(1, 2, false), 1);
        due("just(2, 2, true)", x.just(2, 2, true), 1);
        due("just(2, 2, false)", x.just(2, 2, false), 16);
        due("just(2, 1, true)", x.just(2, 1, true), 7);
        due("just(2, 1, false)", x.just(2, 1, false), 16);
        due("just(2, 0, true)", x.just(2, 0, true), 1);
        due("just(2, 0, false)", x.just(2, 0, false), 2);
        PullCards sure = new PullCards();
        due("just(10, 10, true)", sure.just(10, 10, true), 1);
        due("just(10, 10, false)", sure.just(10, 10, false), 1);
        due("just(10, 9, true)", sure.just(10, 9, true), 0);
        due("just(10, 0, true)", sure.just(10, 0, true), 0);
        PullCards last = lasting(2);
        due("just(6, 3, false), B 2", last.just(6, 3, false), 8);
        due("just(6, 2, false), B 2", last.just(6, 2, false), 8);
        last.store(1);
        due("just(6, 3, false), B 1", last.just(6, 3, false), 16);
        due("just(6, 2, true), B 1", last.just(6, 2, true), 3);
        due("just(6, 2, false), B 1", last.just(6, 2, false), 16);
        // The store fills only at a tick that gives none; so all ten give only if both are up at all.
        PullCards all = machines(1, 1, 1, 1, 6);
        due("just(10, 10, true), nine sixteenths each", all.just(10, 10, true), 3486784401L);
        due("just(10, 10, false)", all.just(10, 10, false), 1L << 40);
        PullCards rare = machines(3, 0, 3, 0, 0);
        due("just(10, 10, true)", rare.just(10, 10, true), 1);
        due("just(10, 10, false)", rare.just(10, 10, false), 1L << 40);
    }

    private static void promise23Least() {
        promise = 23;
        PullCards x = machines(2, 0, 2, 4, 5);
        due("least(0, 1, 1)", x.least(0, 1, 1), OUTSIDE);
        due("least(11, 1, 1)", x.least(11, 1, 1), OUTSIDE);
        due("least(1, 0, 1)", x.least(1, 0, 1), OUTSIDE);
        due("least(1, 1, 0)", x.least(1, 1, 0), OUTSIDE);
        due("least(1, 1001, 1)", x.least(1, 1001, 1), OUTSIDE);
        due("least(1, 1, 1001)", x.least(1, 1, 1001), OUTSIDE);
        due("least(2, 7, 16)", x.least(2, 7, 16), 0);
        due("least(2, 439, 1000)", x.least(2, 439, 1000), 1);
        due("least(2, 9, 16)", x.least(2, 9, 16), 1);
        due("least(2, 563, 1000)", x.least(2, 563, 1000), NONE);
        due("total(3), nothing changes", x.total(3), 5);
        due("least(10, 1, 1000)", x.least(10, 1, 1000), 0);
        due("least(10, 1000, 1)", x.least(10, 1000, 1), NONE);
        due("least(1, 1, 4)", x.least(1, 1, 4), 0);
        due("least(1, 251, 1000)", x.least(1, 251, 1000), NONE);
        PullCards last = lasting(0);
        due("least(10, 61, 64)", last.least(10, 61, 64), 2);
        due("least(10, 954, 1000)", last.least(10, 954, 1000), 3);
        due("least(10, 31, 32)", last.least(10, 31, 32), 3);
        due("least(10, 969, 1000)", last.least(10, 969, 1000), NONE);
        // As a second program found it; in ten ticks a store for 6 is of no more use than for 5.
        due("least(10, 141, 64)", machines(1, 0, 1, 1, 0).least(10, 141, 64), 5);
        PullCards sure = new PullCards();
        due("least(10, 10, 1)", sure.least(10, 10, 1), 0);
        due("least(9, 10, 1)", sure.least(9, 10, 1), NONE);
    }

    private static void promise24Demand() {
        promise = 24;
        PullCards x = new PullCards();
        due("demand(6, 1)", x.demand(6, 1), UNKNOWN);
        due("demand(-1, 21)", x.demand(-1, 21), UNKNOWN);
        due("demand(0, 21)", x.demand(0, 21), OUTSIDE);
        due("demand(0, -1)", x.demand(0, -1), OUTSIDE);
        due("demand(0, 20)", x.demand(0, 20), 0);
        due("demand(5, 3)", x.demand(5, 3), 0);
        due("demand(0, 0)", x.demand(0, 0), 20);
        due("demand(5, 5)", x.demand(5, 5), 3);
        due("total(4)", x.total(4), 5);
        due("at(0)", x.at(0), 5);
    }

    private static void promise25At() {
        promise = 25;
        PullCards x = demands(2, 1, 0, 1);
        int[] want = {0, 1, 3, 0};
        for (int place = 0; place < want.length; place++) {
            due("at(" + place + ")", x.at(place), want[place]);
        }
        due("at(4)", x.at(4), NONE);
        due("at(-1)", x.at(-1), NONE);
        due("at(HIGH)", x.at(HIGH), NONE);
        due("at(LOW)", x.at(LOW), NONE);
        due("at(0), no demand", new PullCards().at(0), NONE);
        PullCards most = demands(20, 20, 20, 20, 20, 20);
        due("at(119)", most.at(119), 5);
        due("at(120)", most.at(120), NONE);
        due("at(60)", most.at(60), 0);
        PullCards uneven = demands(1, 4);
        int[] wantUneven = {1, 1, 0, 1, 1};
        for (int place = 0; place < wantUneven.length; place++) {
            due("at(" + place + "), uneven", uneven.at(place), wantUneven[place]);
        }
    }

    private static void promise26Rough() {
        promise = 26;
        due("rough(), no demand", new PullCards().rough(), 0);
        due("rough(), one kind", demands(0, 0, 7).rough(), 0);
        // 0 1 3 0: after one place kind 0 is at 4 - 2, after two at 4 - 4, after three at 4 - 6;
        // kind 3 is after two places at 0 - 2.
        due("rough()", demands(2, 1, 0, 1).rough(), 2);
        // 1 1 0 1 1: kind 0 is at -1, -2, 2, 1, 0.
        due("rough(), uneven", demands(1, 4).rough(), 2);
        // 0 1 2 0 1 0 1: kind 1 is after four places at 7 - 12, none is so far ahead.
        due("rough(), behind", demands(3, 3, 1).rough(), 5);
        // 1 0 1 1 2 1 1 0 1: kind 0 is after two places at 9 - 4, the others at 4 at most.
        due("rough(), the least kind", demands(2, 6, 1).rough(), 5);
        due("rough(), six of one", demands(1, 1, 1, 1, 1, 1).rough(), 5);
        PullCards x = demands(1, 4);
        x.demand(0, 0);
        due("rough(), laid anew", x.rough(), 0);
    }

    private static void promise27Changes() {
        promise = 27;
        due("changes(), no demand", new PullCards().changes(), 0);
        due("changes(), one place", demands(1).changes(), 0);
        due("changes(), one kind", demands(0, 20).changes(), 0);
        due("changes(), uneven", demands(1, 4).changes(), 2);
        due("changes(), all", demands(2, 1, 0, 1).changes(), 3);
        PullCards x = demands(2, 1, 0, 1);
        x.demand(3, 0);
        due("changes(), 0 1 0", x.changes(), 2);
    }

    private static void promise28Total() {
        promise = 28;
        PullCards x = stations(1, 2, 3);
        x.arc(0, 1, 4);
        x.arc(1, 2, 0);
        x.arc(2, 2, 5);
        x.store(2);
        x.demand(1, 6);
        x.demand(2, 11);
        int[] want = {3, 3, 9, 2, 17, 2};
        for (int what = 0; what < want.length; what++) {
            due("total(" + what + ")", x.total(what), want[what]);
        }
        due("total(6)", x.total(6), OUTSIDE);
        due("total(-1)", x.total(-1), OUTSIDE);
        x.put(1, 1);
        due("total(2)", x.total(2), 10);
        due("total(5)", x.total(5), 3);
    }

    private static void refusedChangesNothing() {
        promise = 0;
        PullCards x = pair(1, 9);
        x.machine(0, 1, 2);
        x.store(3);
        x.demand(0, 2);
        x.note();
        x.station(21);
        x.arc(0, 1, 10);
        x.arc(0, 2, 1);
        x.time(0, 0);
        x.put(0, 10);
        x.fire(1);
        x.machine(0, 3, 5);
        x.machine(0, 5, 3);
        x.store(7);
        x.demand(0, 21);
        due("total(0)", x.total(0), 2);
        due("total(1)", x.total(1), 2);
        due("about(0, 2)", x.about(0, 2), 1);
        due("about(1, 2)", x.about(1, 2), 9);
        due("time(0, 1)", x.time(0, 1), 3);
        due("audit(true)", x.audit(true), 0);
        due("machine(0, 0, 0)", x.machine(0, 0, 0), 12);
        due("store(0)", x.store(0), 3);
        due("demand(0, 0)", x.demand(0, 0), 2);
    }

    /** Two rings of arcs through eight stations, one with cards and one without. */
    private static void allThatThereCanBe() {
        promise = 0;
        PullCards x = stations(20, 20, 20, 20, 20, 20, 20, 20);
        for (int i = 0; i < 16; i++) {
            x.arc(i % 8, (i + 1) % 8, i < 8 ? 9 : 0);
        }
        due("total(2)", x.total(2), 72);
        due("total(5)", x.total(5), 0);
        due("fire(7)", x.fire(7), STATE);
        due("round()", x.round(), 0);
        due("slowest(), bare", x.slowest(), 255);
        due("sum(255, false)", x.sum(255, false), 160);
        due("pace(true)", x.pace(true), NONE);
        due("begins(7, 0)", x.begins(7, 0), NONE);
        due("cards(15, 160, 1)", x.cards(15, 160, 1), 1);
        x.put(15, 1);
        due("about(15, 1)", x.about(15, 1), 0);
        due("ready(0)", x.ready(0), 1);
        due("fire(0), 9 on an arc from it", x.fire(0), FULL);
        x.put(0, 8);
        due("round()", x.round(), 1);
        due("pace(true)", x.pace(true), 160);
        due("pace(false)", x.pace(false), 1);
        due("slowest()", x.slowest(), 255);
        due("note()", x.note(), 256);
        x.put(15, 1);
        due("audit(false)", x.audit(false), 128);
        // Two cards now, on arcs 8 and 15: station 0 begins again at 140, then all two works in 160.
        due("begins(0, 60)", x.begins(0, 60), 30 * 160);
        due("begins(7, 60)", x.begins(7, 60), 140 + 29 * 160 + 20 + 6 * 20);
    }
}
