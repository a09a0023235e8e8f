/** The edges of promises 10 to 18: loops, pace, beginnings, notes, cards that are enough. */
public final class LoopEdgesTest extends Edges {
    public static void main(String[] args) throws Exception {
        run(LoopEdgesTest.class, 10, 18);
    }

    /** 4 * 3 * 3 * 3 * 3 = 324 loops, the most of which each passes all stations. */
    private static PullCards mostLoops(int cards) {
        PullCards x = stations(1, 1, 1, 1, 1);
        for (int i = 0; i < 16; i++) {
            x.arc(i % 5, (i + 1) % 5, cards);
        }
        return x;
    }

    /** Arcs from 0 to 1 alone, as many as there can be. */
    private static PullCards sixteenOneWay() {
        PullCards x = stations(20, 20);
        for (int i = 0; i < 16; i++) {
            x.arc(0, 1, 0);
        }
        return x;
    }

    // ---- 10

    @Edge("How many LOOPS there are.")
    static void promise10_noStationYet() {
        due("loops()", new PullCards().loops(), 0);
    }

    @Edge("How many LOOPS there are.")
    static void promise10_noArcYet() {
        due("loops()", eightStations(1).loops(), 0);
    }

    @Edge("each of which begins where the one ahead ends, the first one where the last one ends")
    static void promise10_noWayBack() {
        due("loops(), 16 arcs one way", sixteenOneWay().loops(), 0);
        PullCards x = stations(1, 1, 1);
        x.arc(0, 1, 1);
        x.arc(1, 2, 1);
        x.arc(0, 2, 1);
        due("loops(), two ways to one end", x.loops(), 0);
    }

    @Edge("ARCS 0 .. 15 lead from a STATION to another one, or the same")
    static void promise10_oneArcToItself() {
        due("loops()", own(1, 1).loops(), 1);
    }

    @Edge("A LOOP is a row of ARCS")
    static void promise10_withoutCardsToo() {
        due("loops(), no card", ring(1, 0, 0).loops(), 1);
        due("loops(), no card to itself", own(1, 0).loops(), 1);
    }

    @Edge("A LOOP is a row of ARCS")
    static void promise10_allEightStations() {
        due("loops()", ring(1, 1, 1).loops(), 1);
    }

    @Edge("that passes no STATION twice")
    static void promise10_noStationTwice() {
        // 0 to 1 to 2 to 1 to 0 would pass station 1 twice.
        PullCards x = stations(1, 1, 1);
        x.arc(0, 1, 1);
        x.arc(1, 2, 1);
        x.arc(2, 1, 1);
        x.arc(1, 0, 1);
        due("loops()", x.loops(), 2);
        x.arc(1, 1, 1);
        due("loops(), one more to itself", x.loops(), 3);
    }

    @Edge("it begins at its least STATION")
    static void promise10_eachLoopOnce() {
        // Begun at station 0 or at station 1 it would be two.
        due("loops()", pair(1, 1).loops(), 1);
    }

    @Edge("ARCS 0 .. 15 lead from a STATION to another one, or the same")
    static void promise10_allArcs() {
        due("loops(), 16 to itself", sixteenOwn(1, 1).loops(), 16);
        due("loops(), 2 to the 8th", doubledRing(1, 1).loops(), 256);
        due("loops(), 4 * 3 * 3 * 3 * 3", mostLoops(1).loops(), 324);
    }

    @Edge("What is refused changes nothing.")
    static void promise10_notByARefusedArc() {
        PullCards x = pair(1, 1);
        x.arc(0, 0, 10);
        x.arc(1, 2, 1);
        due("loops()", x.loops(), 1);
        PullCards full = sixteenOwn(1, 1);
        full.arc(0, 0, 1);
        due("loops(), 16 arcs", full.loops(), 16);
    }

    // ---- 11

    @Edge("ARC i of a LOOP; NONE. UNKNOWN.")
    static void promise11_noLoopYet() {
        due("loop(0, 0)", new PullCards().loop(0, 0), UNKNOWN);
        due("loop(0, 0), stations alone", stations(1, 1).loop(0, 0), UNKNOWN);
        due("loop(0, 0), no way back", sixteenOneWay().loop(0, 0), UNKNOWN);
    }

    @Edge("ARC i of a LOOP; NONE.")
    static void promise11_firstAndLastArc() {
        due("loop(0, 0)", pair(1, 1).loop(0, 0), 0);
        due("loop(0, 1)", pair(1, 1).loop(0, 1), 1);
    }

    @Edge("ARC i of a LOOP; NONE.")
    static void promise11_oneLessThanTheFirstArc() {
        due("loop(0, -1)", pair(1, 1).loop(0, -1), NONE);
        due("loop(255, -1)", doubledRing(1, 1).loop(255, -1), NONE);
    }

    @Edge("ARC i of a LOOP; NONE.")
    static void promise11_oneMoreThanTheLastArc() {
        due("loop(0, 2)", pair(1, 1).loop(0, 2), NONE);
        due("loop(0, 1), one arc", own(1, 1).loop(0, 1), NONE);
        due("loop(0, 8), eight arcs", ring(1, 1, 1).loop(0, 8), NONE);
    }

    @Edge("ARC i of a LOOP; NONE.")
    static void promise11_farthestArcs() {
        due("loop(0, LOW)", pair(1, 1).loop(0, LOW), NONE);
        due("loop(0, HIGH)", pair(1, 1).loop(0, HIGH), NONE);
    }

    @Edge("it begins at its least STATION")
    static void promise11_longestLoop() {
        // Arc i leads from station 7 - i: the loop begins at station 0, so with the last arc.
        PullCards x = eightStations(1);
        for (int i = 0; i < 8; i++) {
            x.arc(7 - i, (8 - i) % 8, 1);
        }
        for (int i = 0; i < 8; i++) {
            due("loop(0, " + i + ")", x.loop(0, i), 7 - i);
        }
    }

    @Edge("LOOPS are numbered by STATIONS at which they begin")
    static void promise11_byStationsAheadOfArcs() {
        PullCards x = eightStations(1);
        for (int i = 0; i < 8; i++) {
            x.arc(7 - i, 7 - i, 1);
        }
        for (int loop = 0; loop < 8; loop++) {
            due("loop(" + loop + ", 0)", x.loop(loop, 0), 7 - loop);
        }
    }

    @Edge("then as rows of ARCS (the first ARC that is unlike is less)")
    static void promise11_unlikeInTheFirstArc() {
        PullCards x = stations(1, 1);
        x.arc(0, 1, 1);
        x.arc(0, 0, 1);
        x.arc(0, 1, 1);
        x.arc(1, 0, 1);
        int[][] want = {{0, 3}, {1, NONE}, {2, 3}};
        dueRows(x, want);
    }

    @Edge("then as rows of ARCS (the first ARC that is unlike is less)")
    static void promise11_unlikeInTheLastArc() {
        PullCards x = stations(1, 1);
        x.arc(1, 0, 1);
        x.arc(0, 1, 1);
        x.arc(1, 0, 1);
        x.arc(0, 1, 1);
        int[][] want = {{1, 0}, {1, 2}, {3, 0}, {3, 2}};
        dueRows(x, want);
    }

    @Edge("then as rows of ARCS (the first ARC that is unlike is less)")
    static void promise11_longerOneAheadOfShorterOne() {
        PullCards x = stations(1, 1, 1);
        x.arc(0, 1, 1);
        x.arc(1, 2, 1);
        x.arc(2, 0, 1);
        x.arc(1, 0, 1);
        int[][] want = {{0, 1, 2, NONE}, {0, 3, NONE, NONE}};
        dueRows(x, want);
    }

    @Edge("then as rows of ARCS (the first ARC that is unlike is less)")
    static void promise11_arcsOfOneAndOfTwoDigits() {
        PullCards x = sixteenOwn(1, 1);
        for (int loop = 0; loop < 16; loop++) {
            due("loop(" + loop + ", 0)", x.loop(loop, 0), loop);
        }
    }

    private static void dueRows(PullCards x, int[][] want) {
        due("loops()", x.loops(), want.length);
        for (int loop = 0; loop < want.length; loop++) {
            for (int i = 0; i < want[loop].length; i++) {
                due("loop(" + loop + ", " + i + ")", x.loop(loop, i), want[loop][i]);
            }
        }
    }

    @Edge("ARC i of a LOOP; NONE. UNKNOWN.")
    static void promise11_firstAndLastLoop() {
        // Of the 256 the first one takes the lesser arc everywhere, the last one the greater one.
        PullCards x = doubledRing(1, 1);
        due("loop(0, 0)", x.loop(0, 0), 0);
        due("loop(0, 7)", x.loop(0, 7), 7);
        due("loop(255, 0)", x.loop(255, 0), 8);
        due("loop(255, 7)", x.loop(255, 7), 15);
        due("loop(323, 4), of the most", mostLoops(1).loop(323, 4), 14);
    }

    @Edge("ARC i of a LOOP; NONE. UNKNOWN.")
    static void promise11_oneLessThanTheFirstLoop() {
        due("loop(-1, 0)", pair(1, 1).loop(-1, 0), UNKNOWN);
    }

    @Edge("ARC i of a LOOP; NONE. UNKNOWN.")
    static void promise11_oneMoreThanTheLastLoop() {
        due("loop(1, 0)", pair(1, 1).loop(1, 0), UNKNOWN);
        due("loop(256, 0)", doubledRing(1, 1).loop(256, 0), UNKNOWN);
        due("loop(324, 0)", mostLoops(1).loop(324, 0), UNKNOWN);
    }

    @Edge("ARC i of a LOOP; NONE. UNKNOWN.")
    static void promise11_farthestLoops() {
        due("loop(LOW, 0)", doubledRing(1, 1).loop(LOW, 0), UNKNOWN);
        due("loop(HIGH, 0)", doubledRing(1, 1).loop(HIGH, 0), UNKNOWN);
    }

    @Edge("UNKNOWN (there is no such STATION, ARC, LOOP, KIND)")
    static void promise11_unknownLoopWithoutSuchAnArc() {
        due("loop(1, 2)", pair(1, 1).loop(1, 2), UNKNOWN);
        due("loop(-1, -1)", pair(1, 1).loop(-1, -1), UNKNOWN);
    }

    @Edge("What is refused changes nothing.")
    static void promise11_refusedChangesNothing() {
        refusedUnchanged(Edges::something, "loop(9, 0)", x -> x.loop(9, 0), UNKNOWN);
    }

    // ---- 12

    @Edge("The CARDS of a LOOP (cards), its TIME. UNKNOWN.")
    static void promise12_noLoopYet() {
        due("sum(0, true)", new PullCards().sum(0, true), UNKNOWN);
        due("sum(0, false)", new PullCards().sum(0, false), UNKNOWN);
        due("sum(0, true), no way back", sixteenOneWay().sum(0, true), UNKNOWN);
    }

    @Edge("Its CARDS are those on its ARCS together (that no FIRING changes)")
    static void promise12_leastCards() {
        due("sum(0, true), eight arcs", ring(20, 0, 0).sum(0, true), 0);
        due("sum(0, true), one arc", own(20, 0).sum(0, true), 0);
    }

    @Edge("Its CARDS are those on its ARCS together (that no FIRING changes)")
    static void promise12_mostCards() {
        due("sum(0, true)", ring(20, 9, 9).sum(0, true), 72);
        due("sum(255, true)", doubledRing(20, 9).sum(255, true), 72);
    }

    @Edge("its TIME that of its STATIONS together")
    static void promise12_leastTime() {
        due("sum(0, false)", own(1, 9).sum(0, false), 1);
    }

    @Edge("its TIME that of its STATIONS together")
    static void promise12_mostTime() {
        due("sum(0, false)", ring(20, 0, 0).sum(0, false), 160);
        due("sum(255, false)", doubledRing(20, 0).sum(255, false), 160);
    }

    @Edge("(that no FIRING changes)")
    static void promise12_noFiringChangesThem() {
        PullCards x = ring(1, 0, 9);
        for (int turn = 0; turn < 20; turn++) {
            x.round();
            x.fire(turn % 8);
            due("sum(0, true)", x.sum(0, true), 9);
        }
        PullCards y = own(1, 9);
        y.fire(0);
        due("sum(0, true), to itself", y.sum(0, true), 9);
    }

    @Edge("The CARDS of a LOOP (cards), its TIME.")
    static void promise12_firstAndLastLoop() {
        PullCards x = stations(3, 5, 7);
        x.arc(2, 2, 4);
        x.arc(1, 1, 2);
        x.arc(0, 0, 1);
        due("sum(0, true)", x.sum(0, true), 1);
        due("sum(0, false)", x.sum(0, false), 3);
        due("sum(2, true)", x.sum(2, true), 4);
        due("sum(2, false)", x.sum(2, false), 7);
    }

    @Edge("The CARDS of a LOOP (cards), its TIME. UNKNOWN.")
    static void promise12_oneLessThanTheFirstLoop() {
        due("sum(-1, true)", pair(1, 1).sum(-1, true), UNKNOWN);
        due("sum(-1, false)", pair(1, 1).sum(-1, false), UNKNOWN);
    }

    @Edge("The CARDS of a LOOP (cards), its TIME. UNKNOWN.")
    static void promise12_oneMoreThanTheLastLoop() {
        due("sum(1, true)", pair(1, 1).sum(1, true), UNKNOWN);
        due("sum(1, false)", pair(1, 1).sum(1, false), UNKNOWN);
        due("sum(324, true)", mostLoops(1).sum(324, true), UNKNOWN);
        due("sum(323, true), the last one", mostLoops(1).sum(323, true), 5);
    }

    @Edge("The CARDS of a LOOP (cards), its TIME. UNKNOWN.")
    static void promise12_farthestLoops() {
        due("sum(LOW, true)", doubledRing(1, 1).sum(LOW, true), UNKNOWN);
        due("sum(HIGH, false)", doubledRing(1, 1).sum(HIGH, false), UNKNOWN);
    }

    @Edge("What is refused changes nothing.")
    static void promise12_refusedChangesNothing() {
        refusedUnchanged(Edges::something, "sum(9, true)", x -> x.sum(9, true), UNKNOWN);
    }

    // ---- 13

    private static void duePace(PullCards x, String what, long above, long below) {
        due("pace(true), " + what, x.pace(true), above);
        due("pace(false), " + what, x.pace(false), below);
    }

    @Edge("THE PACE; NONE: there is no LOOP, or one is DEAD.")
    static void promise13_noLoopYet() {
        duePace(new PullCards(), "no station", NONE, NONE);
        duePace(eightStations(1), "no arc", NONE, NONE);
        duePace(sixteenOneWay(), "no way back", NONE, NONE);
    }

    @Edge("NONE: there is no LOOP, or one is DEAD.")
    static void promise13_theOnlyOneDead() {
        duePace(own(1, 0), "to itself", NONE, NONE);
        duePace(ring(20, 0, 0), "eight arcs", NONE, NONE);
    }

    @Edge("NONE: there is no LOOP, or one is DEAD.")
    static void promise13_oneOfManyDead() {
        // 255 of 256 have a card on at least one arc, but the last one has none.
        PullCards x = doubledRing(1, 1);
        for (int arc = 8; arc < 16; arc++) {
            x.put(arc, 0);
        }
        duePace(x, "the last one dead", NONE, NONE);
        x.put(15, 1);
        duePace(x, "none dead", 8, 1);
    }

    @Edge("A LOOP without CARDS is DEAD")
    static void promise13_oneCardIsNotDead() {
        duePace(ring(20, 0, 1), "one card on eight arcs", 160, 1);
    }

    @Edge("THE PACE is the greatest TIME by CARDS of all LOOPS, a FRACTION")
    static void promise13_leastPace() {
        duePace(own(1, 9), "1 by 9", 1, 9);
        duePace(ring(1, 9, 9), "8 by 72", 1, 9);
        duePace(sixteenOwn(1, 9), "1 by 9, 16 times", 1, 9);
    }

    @Edge("THE PACE is the greatest TIME by CARDS of all LOOPS, a FRACTION")
    static void promise13_greatestPace() {
        duePace(ring(20, 0, 1), "160 by 1", 160, 1);
    }

    @Edge("FRACTIONS are told in least terms")
    static void promise13_leastTerms() {
        duePace(ring(20, 9, 9), "160 by 72", 20, 9);
        duePace(pair(3, 4), "7 by 7", 1, 1);
        duePace(pair(3, 3), "7 by 6", 7, 6);
    }

    @Edge("upper (the number above), else the one below (1 and more; of 0: 1)")
    static void promise13_wholeNumber() {
        duePace(own(20, 5), "20 by 5", 4, 1);
    }

    @Edge("THE PACE is the greatest TIME by CARDS of all LOOPS, a FRACTION")
    static void promise13_greatestOfTwoNearOnes() {
        // 19 by 9 is 2.11.., 17 by 8 is 2.125.
        PullCards x = stations(19, 17);
        x.arc(0, 0, 9);
        x.arc(1, 1, 8);
        duePace(x, "the second one", 17, 8);
        PullCards y = stations(17, 19);
        y.arc(0, 0, 8);
        y.arc(1, 1, 9);
        duePace(y, "the first one", 17, 8);
    }

    @Edge("as longs; refusals are told likewise")
    static void promise13_noneIsToldTwice() {
        due("pace(true)", own(1, 0).pace(true), -9L);
        due("pace(false)", own(1, 0).pace(false), -9L);
    }

    // ---- 14

    @Edge("NONE: there is none.")
    static void promise14_noLoopYet() {
        due("slowest(), no station", new PullCards().slowest(), NONE);
        due("slowest(), no arc", eightStations(1).slowest(), NONE);
        due("slowest(), no way back", sixteenOneWay().slowest(), NONE);
    }

    @Edge("The first LOOP whose TIME by CARDS is THE PACE")
    static void promise14_theOnlyOne() {
        due("slowest(), 1 by 9", own(1, 9).slowest(), 0);
        due("slowest(), 160 by 1", ring(20, 0, 1).slowest(), 0);
    }

    @Edge("The first LOOP whose TIME by CARDS is THE PACE")
    static void promise14_theFirstOfLikeOnes() {
        due("slowest(), 16 alike", sixteenOwn(7, 3).slowest(), 0);
        due("slowest(), 324 alike", mostLoops(1).slowest(), 0);
    }

    @Edge("The first LOOP whose TIME by CARDS is THE PACE")
    static void promise14_likeByOtherNumbers() {
        PullCards x = stations(1, 6, 4, 2);
        x.arc(0, 0, 1);
        x.arc(1, 1, 3);
        x.arc(2, 2, 2);
        x.arc(3, 3, 1);
        due("slowest(), 1 by 1, 6 by 3, 4 by 2, 2 by 1", x.slowest(), 1);
    }

    @Edge("The first LOOP whose TIME by CARDS is THE PACE")
    static void promise14_theLastOne() {
        PullCards x = doubledRing(1, 9);
        for (int arc = 8; arc < 16; arc++) {
            x.put(arc, 8);
        }
        due("slowest(), the least cards on the last one", x.slowest(), 255);
    }

    @Edge("(a DEAD one ahead of all)")
    static void promise14_deadAheadOfTheSlowest() {
        PullCards x = stations(20, 1);
        x.arc(0, 0, 1);
        x.arc(1, 1, 0);
        due("slowest(), 20 by 1 and a dead one", x.slowest(), 1);
        PullCards y = stations(1, 20);
        y.arc(0, 0, 0);
        y.arc(1, 1, 1);
        due("slowest(), a dead one and 20 by 1", y.slowest(), 0);
    }

    @Edge("(a DEAD one ahead of all)")
    static void promise14_theFirstOfTwoDead() {
        PullCards x = stations(9, 1, 20);
        x.arc(0, 0, 1);
        x.arc(1, 1, 0);
        x.arc(2, 2, 0);
        due("slowest()", x.slowest(), 1);
        due("slowest(), all dead", sixteenOwn(20, 0).slowest(), 0);
    }

    // ---- 15

    @Edge("When WORK k (0 .. 60) of a STATION begins at the earliest; NONE: never. UNKNOWN; OUTSIDE.")
    static void promise15_noStationYet() {
        due("begins(0, 0)", new PullCards().begins(0, 0), UNKNOWN);
    }

    @Edge("begins at the earliest at tick: 0, or the latest, over all ARCS to it")
    static void promise15_noArcToIt() {
        due("begins(0, 0)", stations(20).begins(0, 0), 0);
        due("begins(0, 60)", stations(20).begins(0, 60), 0);
        due("begins(0, 60), arcs from it", sixteenOneWay().begins(0, 60), 0);
    }

    @Edge("When WORK k (0 .. 60) of a STATION begins at the earliest")
    static void promise15_firstWork() {
        due("begins(0, 0)", own(20, 1).begins(0, 0), 0);
    }

    @Edge("When WORK k (0 .. 60) of a STATION begins at the earliest")
    static void promise15_lastWork() {
        due("begins(0, 60), 1 tick", own(1, 1).begins(0, 60), 60);
        due("begins(0, 60), 20 ticks", own(20, 1).begins(0, 60), 1200);
        due("begins(0, 60), nine cards", own(20, 9).begins(0, 60), 120);
    }

    @Edge("When WORK k (0 .. 60) of a STATION begins at the earliest; NONE: never. UNKNOWN; OUTSIDE.")
    static void promise15_oneLessThanTheFirstWork() {
        due("begins(0, -1)", own(1, 1).begins(0, -1), OUTSIDE);
    }

    @Edge("When WORK k (0 .. 60) of a STATION begins at the earliest; NONE: never. UNKNOWN; OUTSIDE.")
    static void promise15_oneMoreThanTheLastWork() {
        due("begins(0, 61)", own(1, 1).begins(0, 61), OUTSIDE);
        due("begins(0, 61), never", own(1, 0).begins(0, 61), OUTSIDE);
    }

    @Edge("When WORK k (0 .. 60) of a STATION begins at the earliest; NONE: never. UNKNOWN; OUTSIDE.")
    static void promise15_farthestWorks() {
        due("begins(0, LOW)", own(1, 1).begins(0, LOW), OUTSIDE);
        due("begins(0, HIGH)", own(1, 1).begins(0, HIGH), OUTSIDE);
    }

    @Edge("STATIONS 0 .. 7 have a TIME (1 to 20 ticks)")
    static void promise15_leastAndGreatestStation() {
        // One card, at first on the arc to station 0: 160 ticks a turn, 20 from one to the next.
        PullCards x = ring(20, 0, 1);
        due("begins(0, 0)", x.begins(0, 0), 0);
        due("begins(7, 0)", x.begins(7, 0), 140);
        due("begins(0, 60)", x.begins(0, 60), 9600);
        due("begins(7, 60)", x.begins(7, 60), 9740);
    }

    @Edge("UNKNOWN; OUTSIDE.")
    static void promise15_oneLessThanTheLeastStation() {
        due("begins(-1, 0)", pair(1, 1).begins(-1, 0), UNKNOWN);
    }

    @Edge("UNKNOWN; OUTSIDE.")
    static void promise15_oneMoreThanTheGreatestStation() {
        due("begins(2, 0)", pair(1, 1).begins(2, 0), UNKNOWN);
        due("begins(8, 60)", eightStations(1).begins(8, 60), UNKNOWN);
    }

    @Edge("UNKNOWN; OUTSIDE.")
    static void promise15_farthestStations() {
        due("begins(LOW, 0)", eightStations(1).begins(LOW, 0), UNKNOWN);
        due("begins(HIGH, 0)", eightStations(1).begins(HIGH, 0), UNKNOWN);
    }

    @Edge("REFUSALS, of several the first that a call names")
    static void promise15_unknownAheadOfOutside() {
        due("begins(2, 61)", pair(1, 1).begins(2, 61), UNKNOWN);
        due("begins(-1, -1)", pair(1, 1).begins(-1, -1), UNKNOWN);
    }

    @Edge("with c CARDS now (k is c or more)")
    static void promise15_kOneLessThanTheCards() {
        due("begins(1, 0), one card", line(1).begins(1, 0), 0);
        due("begins(1, 8), nine cards", line(9).begins(1, 8), 0);
    }

    @Edge("with c CARDS now (k is c or more)")
    static void promise15_kAsManyAsTheCards() {
        due("begins(1, 0), no card", line(0).begins(1, 0), 5);
        due("begins(1, 1), one card", line(1).begins(1, 1), 5);
        due("begins(1, 9), nine cards", line(9).begins(1, 9), 5);
    }

    @Edge("with c CARDS now (k is c or more)")
    static void promise15_kOneMoreThanTheCards() {
        due("begins(1, 1), no card", line(0).begins(1, 1), 10);
        due("begins(1, 2), one card", line(1).begins(1, 2), 10);
        due("begins(1, 10), nine cards", line(9).begins(1, 10), 10);
    }

    /** Station 0 works one after the other, 5 ticks each, for station 1. */
    private static PullCards line(int cards) {
        PullCards x = stations(5, 1);
        x.arc(0, 0, 1);
        x.arc(0, 1, cards);
        return x;
    }

    @Edge("the latest, over all ARCS to it")
    static void promise15_latestOfSixteenArcs() {
        PullCards x = stations(20, 1);
        for (int i = 0; i < 16; i++) {
            x.arc(0, 1, i == 15 ? 0 : 9);
        }
        due("begins(1, 0), the last arc is bare", x.begins(1, 0), 20);
        x.put(15, 9);
        due("begins(1, 8), nine on each", x.begins(1, 8), 0);
        x.put(0, 8);
        due("begins(1, 8), eight on the first", x.begins(1, 8), 20);
    }

    @Edge("the latest, over all ARCS to it")
    static void promise15_bareArcsThroughAllStations() {
        PullCards x = doubledRing(20, 0);
        x.put(7, 1);
        x.put(15, 1);
        due("begins(0, 0), cards to 0", x.begins(0, 0), 0);
        due("begins(7, 0), cards to 0", x.begins(7, 0), 140);
        x.put(7, 0);
        x.put(15, 0);
        x.put(3, 1);
        x.put(11, 1);
        due("begins(4, 0), cards to 4", x.begins(4, 0), 0);
        due("begins(3, 0), cards to 4", x.begins(3, 0), 140);
        due("begins(3, 60), cards to 4", x.begins(3, 60), 9740);
    }

    @Edge("the latest, over all ARCS to it")
    static void promise15_bareArcsAgainstTheNumbers() {
        PullCards x = eightStations(20);
        for (int i = 0; i < 16; i++) {
            x.arc((i + 1) % 8, i % 8, i % 8 == 7 ? 1 : 0);
        }
        due("begins(7, 0), cards from 0 to 7", x.begins(7, 0), 0);
        due("begins(0, 0), cards from 0 to 7", x.begins(0, 0), 140);
        due("begins(0, 60), cards from 0 to 7", x.begins(0, 60), 9740);
    }

    @Edge("A LOOP without CARDS is DEAD: none of its STATIONS ever FIRES.")
    static void promise15_neverInADeadLoop() {
        due("begins(0, 0), to itself", own(1, 0).begins(0, 0), NONE);
        due("begins(0, 60), to itself", own(1, 0).begins(0, 60), NONE);
        for (int station = 0; station < 8; station++) {
            due("begins(" + station + ", 0)", ring(1, 0, 0).begins(station, 0), NONE);
        }
    }

    @Edge("never, if that needs one that never begins")
    static void promise15_neverBehindADeadLoop() {
        PullCards x = stations(1, 1);
        x.arc(0, 0, 0);
        x.arc(0, 1, 0);
        due("begins(1, 0), no card", x.begins(1, 0), NONE);
        x.put(1, 9);
        due("begins(1, 8), nine cards", x.begins(1, 8), 0);
        due("begins(1, 9), nine cards", x.begins(1, 9), NONE);
        due("begins(1, 60), nine cards", x.begins(1, 60), NONE);
    }

    @Edge("never, if that needs one that never begins")
    static void promise15_neverAtSecondHand() {
        PullCards x = stations(2, 3, 4, 5);
        x.arc(0, 0, 0);
        x.arc(0, 1, 1);
        x.arc(1, 2, 1);
        due("begins(1, 0)", x.begins(1, 0), 0);
        due("begins(1, 1)", x.begins(1, 1), NONE);
        due("begins(2, 1)", x.begins(2, 1), 3);
        due("begins(2, 2)", x.begins(2, 2), NONE);
        due("begins(3, 60), which needs none", x.begins(3, 60), 0);
    }

    @Edge("never, if that needs one that never begins")
    static void promise15_neverByOneOfTwoArcs() {
        PullCards x = stations(2, 3, 4);
        x.arc(0, 0, 0);
        x.arc(0, 2, 0);
        x.arc(1, 2, 0);
        due("begins(2, 0), the first arc", x.begins(2, 0), NONE);
        PullCards y = stations(2, 3, 4);
        y.arc(1, 2, 0);
        y.arc(0, 0, 0);
        y.arc(0, 2, 0);
        due("begins(2, 0), the last arc", y.begins(2, 0), NONE);
        for (int arc = 1; arc < 3; arc++) {
            x.put(arc, 1);
            y.put(arc == 1 ? 0 : 2, 1);
        }
        due("begins(2, 0), a card on each", x.begins(2, 0), 0);
        due("begins(2, 1), the first arc", x.begins(2, 1), NONE);
        due("begins(2, 1), the last arc", y.begins(2, 1), NONE);
    }

    @Edge("(From now on, as if nothing was under way;")
    static void promise15_fromNowOn() {
        PullCards x = pair(1, 0);
        due("begins(0, 0)", x.begins(0, 0), 4);
        due("begins(1, 0)", x.begins(1, 0), 0);
        x.fire(1);
        due("begins(0, 0), fired", x.begins(0, 0), 0);
        due("begins(1, 0), fired", x.begins(1, 0), 3);
        x.time(0, 20);
        due("begins(1, 0), 20 ticks", x.begins(1, 0), 20);
    }

    @Edge("What is refused changes nothing.")
    static void promise15_unknownChangesNothing() {
        refusedUnchanged(Edges::something, "begins(3, 0)", x -> x.begins(3, 0), UNKNOWN);
    }

    @Edge("What is refused changes nothing.")
    static void promise15_outsideChangesNothing() {
        refusedUnchanged(Edges::something, "begins(0, 61)", x -> x.begins(0, 61), OUTSIDE);
    }

    // ---- 16

    private static void dueAudit(PullCards x, String what, int lost, int more) {
        due("audit(true), " + what, x.audit(true), lost);
        due("audit(false), " + what, x.audit(false), more);
    }

    @Edge("LOOPS are noted down with their CARDS (instead of what was): how many.")
    static void promise16_noLoopYet() {
        due("note(), no station", new PullCards().note(), 0);
        due("note(), no arc", eightStations(1).note(), 0);
        due("note(), no way back", sixteenOneWay().note(), 0);
    }

    @Edge("LOOPS are noted down with their CARDS (instead of what was): how many.")
    static void promise16_oneLoop() {
        due("note()", own(1, 9).note(), 1);
        due("note(), dead", own(1, 0).note(), 1);
    }

    @Edge("LOOPS are noted down with their CARDS (instead of what was): how many.")
    static void promise16_mostLoops() {
        due("note(), 256", doubledRing(1, 1).note(), 256);
        due("note(), 324", mostLoops(1).note(), 324);
    }

    @Edge("(instead of what was)")
    static void promise16_insteadOfWhatWas() {
        PullCards x = pair(9, 9);
        x.note();
        x.put(0, 0);
        due("note(), again", x.note(), 1);
        dueAudit(x, "as noted again", 0, 0);
        x.put(0, 1);
        dueAudit(x, "more than noted again", 0, 1);
    }

    @Edge("(instead of what was)")
    static void promise16_moreLoopsThanThere() {
        PullCards x = pair(1, 1);
        x.note();
        x.arc(1, 1, 1);
        due("note(), an arc came", x.note(), 2);
        dueAudit(x, "as noted again", 0, 0);
    }

    // ---- 17

    @Edge("STATE: none are noted, or an ARC, a STATION came since.")
    static void promise17_nothingNotedYet() {
        dueAudit(new PullCards(), "no loop", STATE, STATE);
        dueAudit(pair(1, 1), "a loop", STATE, STATE);
        dueAudit(doubledRing(1, 1), "256 loops", STATE, STATE);
    }

    @Edge("How many of those noted have fewer CARDS now (lost = true), more")
    static void promise17_noteOfNoLoop() {
        // It was noted that there is none: as ../shared/tests has it, this note stands.
        PullCards x = stations(1);
        x.note();
        dueAudit(x, "no loop", 0, 0);
    }

    @Edge("an ARC, a STATION came since")
    static void promise17_anArcCame() {
        PullCards x = pair(1, 1);
        x.note();
        x.arc(0, 0, 1);
        dueAudit(x, "an arc of a loop", STATE, STATE);
        PullCards y = stations(1, 1);
        y.arc(0, 0, 1);
        y.note();
        y.arc(0, 1, 1);
        dueAudit(y, "an arc of no loop", STATE, STATE);
    }

    @Edge("an ARC, a STATION came since")
    static void promise17_aStationCame() {
        PullCards x = pair(1, 1);
        x.note();
        x.station(1);
        dueAudit(x, "a station", STATE, STATE);
    }

    @Edge("an ARC, a STATION came since")
    static void promise17_noneCameByOtherChanges() {
        PullCards x = pair(1, 1);
        x.note();
        x.time(0, 20);
        x.round();
        x.machine(0, 1, 1);
        x.store(6);
        x.demand(0, 20);
        dueAudit(x, "another time, a round, machines, kinds", 0, 0);
    }

    @Edge("an ARC, a STATION came since")
    static void promise17_theLastArcAndStation() {
        PullCards x = stations(1, 1, 1, 1, 1, 1, 1);
        x.arc(0, 0, 1);
        x.note();
        due("station(1), the eighth", x.station(1), 7);
        dueAudit(x, "the eighth station", STATE, STATE);
        for (int i = 1; i < 15; i++) {
            x.arc(0, 0, 1);
        }
        x.note();
        due("arc(0, 0, 1), the 16th", x.arc(0, 0, 1), 15);
        dueAudit(x, "the 16th arc", STATE, STATE);
    }

    @Edge("an ARC, a STATION came since")
    static void promise17_notedAnewSince() {
        PullCards x = pair(1, 1);
        x.note();
        x.arc(0, 0, 1);
        x.station(1);
        x.note();
        dueAudit(x, "noted anew", 0, 0);
    }

    @Edge("What is refused changes nothing.")
    static void promise17_noneCameThatWasRefused() {
        PullCards x = pair(1, 1);
        x.note();
        x.station(0);
        x.station(21);
        x.arc(2, 0, 1);
        x.arc(0, 0, 10);
        dueAudit(x, "refused as unknown and outside", 0, 0);
        PullCards full = doubledRing(1, 1);
        full.note();
        full.station(1);
        full.arc(0, 0, 1);
        dueAudit(full, "refused as full", 0, 0);
    }

    @Edge("How many of those noted have fewer CARDS now (lost = true), more")
    static void promise17_asMany() {
        PullCards x = doubledRing(1, 5);
        x.note();
        dueAudit(x, "nothing changed", 0, 0);
        x.put(0, 4);
        x.put(8, 4);
        x.put(1, 6);
        x.put(9, 6);
        dueAudit(x, "one less there, one more here", 0, 0);
    }

    @Edge("How many of those noted have fewer CARDS now (lost = true), more")
    static void promise17_oneFewer() {
        PullCards x = pair(9, 9);
        x.note();
        x.put(1, 8);
        dueAudit(x, "17 of 18", 1, 0);
    }

    @Edge("How many of those noted have fewer CARDS now (lost = true), more")
    static void promise17_oneMore() {
        PullCards x = pair(0, 0);
        x.note();
        x.put(1, 1);
        dueAudit(x, "1, not 0", 0, 1);
    }

    @Edge("How many of those noted have fewer CARDS now (lost = true), more")
    static void promise17_allFewerAllMore() {
        PullCards x = mostLoops(9);
        x.note();
        for (int arc = 0; arc < 16; arc++) {
            x.put(arc, 0);
        }
        dueAudit(x, "324 without cards now", 324, 0);
        x.note();
        for (int arc = 0; arc < 16; arc++) {
            x.put(arc, 9);
        }
        dueAudit(x, "324 with all cards now", 0, 324);
    }

    @Edge("How many of those noted have fewer CARDS now (lost = true), more")
    static void promise17_someFewerSomeMore() {
        PullCards x = sixteenOwn(1, 5);
        x.note();
        x.put(0, 0);
        x.put(7, 4);
        x.put(15, 9);
        dueAudit(x, "two fewer, one more", 2, 1);
    }

    @Edge("(that no FIRING changes)")
    static void promise17_noFiringLosesACard() {
        PullCards x = doubledRing(1, 1);
        x.note();
        x.round();
        x.fire(3);
        dueAudit(x, "fired", 0, 0);
    }

    @Edge("What is refused changes nothing.")
    static void promise17_stateChangesNothing() {
        refusedUnchanged(() -> pair(1, 2), "audit(true)", x -> x.audit(true), STATE);
        refusedUnchanged(() -> pair(1, 2), "audit(false)", x -> x.audit(false), STATE);
    }

    // ---- 18

    @Edge("UNKNOWN: the ARC; OUTSIDE.")
    static void promise18_noArcYet() {
        due("cards(0, 1, 1)", new PullCards().cards(0, 1, 1), UNKNOWN);
        due("cards(0, 1, 1), stations alone", stations(1, 1).cards(0, 1, 1), UNKNOWN);
    }

    @Edge("a told FRACTION (above by below, 1 to 1000 each;")
    static void promise18_leastAbove() {
        // 9 ticks by 9 cards is 1 by 1; 10 ticks would need ten cards.
        due("cards(0, 1, 1), 9 ticks", own(9, 0).cards(0, 1, 1), 9);
        due("cards(0, 1, 1), 10 ticks", own(10, 0).cards(0, 1, 1), NONE);
    }

    @Edge("a told FRACTION (above by below, 1 to 1000 each;")
    static void promise18_greatestAbove() {
        due("cards(0, 1000, 1)", own(20, 0).cards(0, 1000, 1), 1);
        due("cards(0, 1000, 450), 20 by 9", own(20, 0).cards(0, 1000, 450), 9);
        due("cards(0, 1000, 451)", own(20, 0).cards(0, 1000, 451), NONE);
    }

    @Edge("a told FRACTION (above by below, 1 to 1000 each;")
    static void promise18_leastBelow() {
        due("cards(0, 20, 1)", own(20, 0).cards(0, 20, 1), 1);
        due("cards(0, 19, 1)", own(20, 0).cards(0, 19, 1), 2);
    }

    @Edge("a told FRACTION (above by below, 1 to 1000 each;")
    static void promise18_greatestBelow() {
        due("cards(0, 1, 1000)", own(1, 0).cards(0, 1, 1000), NONE);
        due("cards(0, 1000, 1000), 9 by 9", own(9, 0).cards(0, 1000, 1000), 9);
        // 1 by 9 is 111.1 by 1000.
        due("cards(0, 112, 1000), 1 by 9", own(1, 0).cards(0, 112, 1000), 9);
        due("cards(0, 111, 1000), 1 by 9", own(1, 0).cards(0, 111, 1000), NONE);
    }

    @Edge("UNKNOWN: the ARC; OUTSIDE.")
    static void promise18_oneLessThanTheLeast() {
        due("cards(0, 0, 1)", own(1, 1).cards(0, 0, 1), OUTSIDE);
        due("cards(0, 1, 0)", own(1, 1).cards(0, 1, 0), OUTSIDE);
    }

    @Edge("UNKNOWN: the ARC; OUTSIDE.")
    static void promise18_oneMoreThanTheGreatest() {
        due("cards(0, 1001, 1)", own(1, 1).cards(0, 1001, 1), OUTSIDE);
        due("cards(0, 1, 1001)", own(1, 1).cards(0, 1, 1001), OUTSIDE);
    }

    @Edge("UNKNOWN: the ARC; OUTSIDE.")
    static void promise18_farthestNumbers() {
        due("cards(0, LOW, 1)", own(1, 1).cards(0, LOW, 1), OUTSIDE);
        due("cards(0, HIGH, 1)", own(1, 1).cards(0, HIGH, 1), OUTSIDE);
        due("cards(0, 1, LOW)", own(1, 1).cards(0, 1, LOW), OUTSIDE);
        due("cards(0, 1, HIGH)", own(1, 1).cards(0, 1, HIGH), OUTSIDE);
    }

    @Edge("UNKNOWN: the ARC; OUTSIDE.")
    static void promise18_outsideWithoutALoop() {
        due("cards(15, 0, 1)", sixteenOneWay().cards(15, 0, 1), OUTSIDE);
        due("cards(15, 1, 1001)", sixteenOneWay().cards(15, 1, 1001), OUTSIDE);
    }

    @Edge("ARCS 0 .. 15 lead from a STATION to another one, or the same")
    static void promise18_leastAndGreatestArc() {
        PullCards first = sixteenOwn(6, 2);
        first.put(0, 1);
        due("cards(0, 3, 1)", first.cards(0, 3, 1), 1);
        due("cards(15, 3, 1), arc 0 is short", first.cards(15, 3, 1), NONE);
        PullCards last = sixteenOwn(6, 2);
        last.put(15, 0);
        due("cards(15, 3, 1)", last.cards(15, 3, 1), 2);
        due("cards(0, 3, 1), arc 15 is bare", last.cards(0, 3, 1), NONE);
    }

    @Edge("UNKNOWN: the ARC; OUTSIDE.")
    static void promise18_oneLessThanTheLeastArc() {
        due("cards(-1, 1, 1)", own(1, 1).cards(-1, 1, 1), UNKNOWN);
    }

    @Edge("UNKNOWN: the ARC; OUTSIDE.")
    static void promise18_oneMoreThanTheGreatestArc() {
        due("cards(1, 1, 1)", own(1, 1).cards(1, 1, 1), UNKNOWN);
        due("cards(16, 1, 1)", sixteenOwn(1, 1).cards(16, 1, 1), UNKNOWN);
    }

    @Edge("UNKNOWN: the ARC; OUTSIDE.")
    static void promise18_farthestArcs() {
        due("cards(LOW, 1, 1)", sixteenOwn(1, 1).cards(LOW, 1, 1), UNKNOWN);
        due("cards(HIGH, 1, 1)", sixteenOwn(1, 1).cards(HIGH, 1, 1), UNKNOWN);
    }

    @Edge("REFUSALS, of several the first that a call names")
    static void promise18_unknownAheadOfOutside() {
        due("cards(1, 0, 1)", own(1, 1).cards(1, 0, 1), UNKNOWN);
        due("cards(-1, 1, 1001)", own(1, 1).cards(-1, 1, 1001), UNKNOWN);
        due("cards(0, 0, 0), no arc yet", new PullCards().cards(0, 0, 0), UNKNOWN);
    }

    @Edge("makes THE PACE at most a told FRACTION")
    static void promise18_justTheFraction() {
        due("cards(0, 7, 3), 7 by 3", own(7, 3).cards(0, 7, 3), 0);
        due("cards(0, 700, 300), 7 by 3", own(7, 3).cards(0, 700, 300), 0);
        due("cards(0, 7, 4), 7 by 4", own(7, 3).cards(0, 7, 4), 1);
    }

    @Edge("makes THE PACE at most a told FRACTION")
    static void promise18_aLittleLessThanThePace() {
        due("cards(0, 699, 300), 7 by 3", own(7, 3).cards(0, 699, 300), 1);
        due("cards(0, 998, 428), 7 by 3", own(7, 3).cards(0, 998, 428), 1);
    }

    @Edge("makes THE PACE at most a told FRACTION")
    static void promise18_aLittleMoreThanThePace() {
        due("cards(0, 701, 300), 7 by 3", own(7, 3).cards(0, 701, 300), 0);
    }

    @Edge("beside those that it has (9 at most in all)")
    static void promise18_nineInAll() {
        due("cards(0, 20, 9), bare", own(20, 0).cards(0, 20, 9), 9);
        due("cards(0, 20, 9), one there", own(20, 1).cards(0, 20, 9), 8);
        due("cards(0, 20, 9), eight there", own(20, 8).cards(0, 20, 9), 1);
    }

    @Edge("NONE: none does.")
    static void promise18_tenInAll() {
        due("cards(0, 20, 10), bare", own(20, 0).cards(0, 20, 10), NONE);
        due("cards(0, 20, 10), eight there", own(20, 8).cards(0, 20, 10), NONE);
    }

    @Edge("beside those that it has (9 at most in all)")
    static void promise18_nineThereAlready() {
        due("cards(0, 20, 9)", own(20, 9).cards(0, 20, 9), 0);
        due("cards(0, 20, 10)", own(20, 9).cards(0, 20, 10), NONE);
    }

    @Edge("if there is no LOOP, it is")
    static void promise18_noLoop() {
        due("cards(0, 1, 1000)", sixteenOneWay().cards(0, 1, 1000), 0);
        PullCards full = stations(20, 20);
        full.arc(0, 1, 9);
        due("cards(0, 1, 1000), nine there", full.cards(0, 1, 1000), 0);
    }

    @Edge("if one is DEAD, it is not")
    static void promise18_deadThroughTheArc() {
        due("cards(0, 1000, 1)", own(1, 0).cards(0, 1000, 1), 1);
        due("cards(0, 1000, 1), all eight arcs bare", ring(20, 0, 0).cards(0, 1000, 1), 1);
        due("cards(0, 160, 9), all eight arcs bare", ring(20, 0, 0).cards(0, 160, 9), 9);
    }

    @Edge("if one is DEAD, it is not")
    static void promise18_deadElsewhere() {
        PullCards x = stations(1, 1, 1);
        x.arc(0, 0, 9);
        x.arc(1, 1, 0);
        x.arc(0, 2, 0);
        due("cards(0, 1000, 1)", x.cards(0, 1000, 1), NONE);
        due("cards(2, 1000, 1), an arc of no loop", x.cards(2, 1000, 1), NONE);
        due("cards(1, 1000, 1), its own arc", x.cards(1, 1000, 1), 1);
    }

    @Edge("NONE: none does.")
    static void promise18_anotherLoopIsTooSlow() {
        PullCards x = stations(1, 5);
        x.arc(0, 0, 1);
        x.arc(1, 1, 2);
        due("cards(0, 5, 2)", x.cards(0, 5, 2), 0);
        due("cards(0, 249, 100)", x.cards(0, 249, 100), NONE);
    }

    @Edge("The least number of CARDS that, put on an ARC")
    static void promise18_mostThatOneOfManyLoopsNeeds() {
        // The loop of arcs 8 to 15 has no card, each other one has nine or more.
        PullCards x = doubledRing(1, 9);
        for (int arc = 8; arc < 16; arc++) {
            x.put(arc, 0);
        }
        due("cards(15, 8, 1)", x.cards(15, 8, 1), 1);
        due("cards(15, 8, 9)", x.cards(15, 8, 9), 9);
        due("cards(15, 7, 8), more than nine", x.cards(15, 7, 8), NONE);
    }

    @Edge("Nothing changes.")
    static void promise18_nothingChanges() {
        unchanged(() -> pair(0, 2), "cards(0, 1, 1)", x -> x.cards(0, 1, 1));
        unchanged(Edges::something, "cards(4, 9, 1)", x -> x.cards(4, 9, 1));
        unchanged(Edges::everything, "cards(15, 20, 9)", x -> x.cards(15, 20, 9));
    }

    @Edge("What is refused changes nothing.")
    static void promise18_unknownChangesNothing() {
        refusedUnchanged(Edges::something, "cards(5, 1, 1)", x -> x.cards(5, 1, 1), UNKNOWN);
    }

    @Edge("What is refused changes nothing.")
    static void promise18_outsideChangesNothing() {
        refusedUnchanged(Edges::something, "cards(0, 0, 1)", x -> x.cards(0, 0, 1), OUTSIDE);
        refusedUnchanged(Edges::something, "cards(0, 1, 1001)", x -> x.cards(0, 1, 1001), OUTSIDE);
    }
}
