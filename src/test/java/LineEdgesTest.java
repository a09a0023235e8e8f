/** The edges of promises 1 to 9: a new object, stations, arcs, what is ready, firing. */
public final class LineEdgesTest extends Edges {
    public static void main(String[] args) throws Exception {
        run(LineEdgesTest.class, 1, 9);
    }

    // ---- 1

    @Edge("No STATIONS, ARCS")
    static void promise1_noStation() {
        due("total(0)", new PullCards().total(0), 0);
        due("ready(0)", new PullCards().ready(0), UNKNOWN);
        due("fire(0)", new PullCards().fire(0), UNKNOWN);
        due("station(7)", new PullCards().station(7), 0);
    }

    @Edge("No STATIONS, ARCS")
    static void promise1_noArc() {
        due("total(1)", new PullCards().total(1), 0);
        due("total(2)", new PullCards().total(2), 0);
        due("about(0, 0)", new PullCards().about(0, 0), UNKNOWN);
        due("arc(0, 0, 1)", stations(1).arc(0, 0, 1), 0);
    }

    @Edge("No STATIONS, ARCS")
    static void promise1_noLoop() {
        due("loops()", new PullCards().loops(), 0);
        due("loop(0, 0)", new PullCards().loop(0, 0), UNKNOWN);
        due("pace(true)", new PullCards().pace(true), NONE);
        due("slowest()", new PullCards().slowest(), NONE);
    }

    @Edge("No STATIONS, ARCS")
    static void promise1_nothingNoted() {
        due("audit(true)", new PullCards().audit(true), STATE);
        due("audit(false)", new PullCards().audit(false), STATE);
    }

    @Edge("machines with all CHANCES 0, B 0")
    static void promise1_noChances() {
        due("machine(0, 1, 2)", new PullCards().machine(0, 1, 2), 0);
        due("machine(1, 1, 2)", new PullCards().machine(1, 1, 2), 0);
        due("given(10, true)", new PullCards().given(10, true), 10);
        due("given(10, false)", new PullCards().given(10, false), 1);
    }

    @Edge("machines with all CHANCES 0, B 0")
    static void promise1_noStore() {
        due("total(3)", new PullCards().total(3), 0);
        due("store(6)", new PullCards().store(6), 0);
    }

    @Edge("all DEMANDS 0")
    static void promise1_noDemand() {
        PullCards x = new PullCards();
        for (int kind = 0; kind < 6; kind++) {
            due("demand(" + kind + ", 20)", x.demand(kind, 20), 0);
        }
    }

    @Edge("all DEMANDS 0")
    static void promise1_noPlace() {
        due("total(4)", new PullCards().total(4), 0);
        due("at(0)", new PullCards().at(0), NONE);
        due("rough()", new PullCards().rough(), 0);
        due("changes()", new PullCards().changes(), 0);
    }

    @Edge("No STATIONS, ARCS; machines with all CHANCES 0, B 0; all DEMANDS 0.")
    static void promise1_notWhatAnotherOneHas() {
        PullCards other = everything();
        PullCards x = new PullCards();
        for (int what = 0; what < 6; what++) {
            due("total(" + what + ")", x.total(what), 0);
        }
        due("machine(0, 0, 0)", x.machine(0, 0, 0), 0);
        due("the other one's total(4)", other.total(4), 30);
    }

    @Edge("public static final int UNKNOWN = -1, OUTSIDE = -2, STATE = -3, FULL = -4, NONE = -9;")
    static void promise1_constants() {
        due("UNKNOWN", PullCards.UNKNOWN, -1);
        due("OUTSIDE", PullCards.OUTSIDE, -2);
        due("STATE", PullCards.STATE, -3);
        due("FULL", PullCards.FULL, -4);
        due("NONE", PullCards.NONE, -9);
    }

    // ---- 2

    @Edge("STATIONS 0 .. 7 have a TIME (1 to 20 ticks)")
    static void promise2_leastTime() {
        PullCards x = new PullCards();
        due("station(1)", x.station(1), 0);
        due("time(0, 9)", x.time(0, 9), 1);
    }

    @Edge("STATIONS 0 .. 7 have a TIME (1 to 20 ticks)")
    static void promise2_greatestTime() {
        PullCards x = new PullCards();
        due("station(20)", x.station(20), 0);
        due("time(0, 9)", x.time(0, 9), 20);
    }

    @Edge("A STATION: its number. OUTSIDE; FULL: 8.")
    static void promise2_oneLessThanTheLeastTime() {
        due("station(0)", new PullCards().station(0), OUTSIDE);
    }

    @Edge("A STATION: its number. OUTSIDE; FULL: 8.")
    static void promise2_oneMoreThanTheGreatestTime() {
        due("station(21)", new PullCards().station(21), OUTSIDE);
    }

    @Edge("A STATION: its number. OUTSIDE; FULL: 8.")
    static void promise2_farthestTimes() {
        due("station(LOW)", new PullCards().station(LOW), OUTSIDE);
        due("station(-1)", new PullCards().station(-1), OUTSIDE);
        due("station(HIGH)", new PullCards().station(HIGH), OUTSIDE);
    }

    @Edge("STATIONS 0 .. 7 have a TIME (1 to 20 ticks)")
    static void promise2_firstNumber() {
        due("station(5)", new PullCards().station(5), 0);
    }

    @Edge("STATIONS 0 .. 7 have a TIME (1 to 20 ticks)")
    static void promise2_lastNumber() {
        due("station(5), the eighth", stations(1, 1, 1, 1, 1, 1, 1).station(5), 7);
    }

    @Edge("FULL: 8.")
    static void promise2_oneMoreThanEight() {
        due("station(1), the ninth", eightStations(1).station(1), FULL);
        due("station(20), the ninth", eightStations(1).station(20), FULL);
    }

    @Edge("REFUSALS, of several the first that a call names")
    static void promise2_outsideAheadOfFull() {
        due("station(0), the ninth", eightStations(1).station(0), OUTSIDE);
        due("station(21), the ninth", eightStations(1).station(21), OUTSIDE);
    }

    @Edge("What is refused changes nothing.")
    static void promise2_outsideChangesNothing() {
        refusedUnchanged(Edges::something, "station(0)", x -> x.station(0), OUTSIDE);
        refusedUnchanged(Edges::something, "station(21)", x -> x.station(21), OUTSIDE);
        refusedUnchanged(PullCards::new, "station(21)", x -> x.station(21), OUTSIDE);
    }

    @Edge("What is refused changes nothing.")
    static void promise2_fullChangesNothing() {
        refusedUnchanged(Edges::everything, "station(1)", x -> x.station(1), FULL);
    }

    // ---- 3

    @Edge("An ARC: its number. UNKNOWN: from, to; OUTSIDE: cards; FULL: 16.")
    static void promise3_noStationYet() {
        due("arc(0, 0, 0)", new PullCards().arc(0, 0, 0), UNKNOWN);
    }

    @Edge("ARCS 0 .. 15 lead from a STATION to another one, or the same")
    static void promise3_firstNumber() {
        due("arc(0, 1, 0)", stations(1, 1).arc(0, 1, 0), 0);
    }

    @Edge("ARCS 0 .. 15 lead from a STATION to another one, or the same")
    static void promise3_lastNumber() {
        PullCards x = stations(1, 1);
        for (int number = 0; number < 16; number++) {
            due("arc(0, 1, 0)", x.arc(0, 1, 0), number);
        }
    }

    @Edge("FULL: 16.")
    static void promise3_oneMoreThanSixteen() {
        due("arc(0, 0, 0), the 17th", sixteenOwn(1, 0).arc(0, 0, 0), FULL);
        due("arc(7, 0, 9), the 17th", doubledRing(1, 9).arc(7, 0, 9), FULL);
    }

    @Edge("ARCS 0 .. 15 lead from a STATION to another one, or the same")
    static void promise3_toTheSame() {
        PullCards x = stations(1, 1);
        due("arc(1, 1, 0)", x.arc(1, 1, 0), 0);
        due("about(0, 0)", x.about(0, 0), 1);
        due("about(0, 1)", x.about(0, 1), 1);
    }

    @Edge("STATIONS 0 .. 7 have a TIME (1 to 20 ticks)")
    static void promise3_leastAndGreatestStation() {
        PullCards x = eightStations(1);
        due("arc(0, 7, 0)", x.arc(0, 7, 0), 0);
        due("arc(7, 0, 0)", x.arc(7, 0, 0), 1);
        due("about(0, 1)", x.about(0, 1), 7);
        due("about(1, 0)", x.about(1, 0), 7);
    }

    @Edge("UNKNOWN: from, to")
    static void promise3_oneLessThanTheLeastFrom() {
        due("arc(-1, 0, 0)", stations(1, 1).arc(-1, 0, 0), UNKNOWN);
    }

    @Edge("UNKNOWN: from, to")
    static void promise3_oneLessThanTheLeastTo() {
        due("arc(0, -1, 0)", stations(1, 1).arc(0, -1, 0), UNKNOWN);
    }

    @Edge("UNKNOWN: from, to")
    static void promise3_oneMoreThanTheGreatestFrom() {
        due("arc(2, 0, 0)", stations(1, 1).arc(2, 0, 0), UNKNOWN);
        due("arc(8, 0, 0)", eightStations(1).arc(8, 0, 0), UNKNOWN);
    }

    @Edge("UNKNOWN: from, to")
    static void promise3_oneMoreThanTheGreatestTo() {
        due("arc(0, 2, 0)", stations(1, 1).arc(0, 2, 0), UNKNOWN);
        due("arc(0, 8, 0)", eightStations(1).arc(0, 8, 0), UNKNOWN);
    }

    @Edge("UNKNOWN: from, to")
    static void promise3_farthestStations() {
        due("arc(LOW, 0, 0)", eightStations(1).arc(LOW, 0, 0), UNKNOWN);
        due("arc(HIGH, 0, 0)", eightStations(1).arc(HIGH, 0, 0), UNKNOWN);
        due("arc(0, LOW, 0)", eightStations(1).arc(0, LOW, 0), UNKNOWN);
        due("arc(0, HIGH, 0)", eightStations(1).arc(0, HIGH, 0), UNKNOWN);
    }

    @Edge("each has CARDS on it (0 to 9)")
    static void promise3_leastCards() {
        PullCards x = stations(1, 1);
        due("arc(0, 1, 0)", x.arc(0, 1, 0), 0);
        due("about(0, 2)", x.about(0, 2), 0);
    }

    @Edge("each has CARDS on it (0 to 9)")
    static void promise3_greatestCards() {
        PullCards x = stations(1, 1);
        due("arc(0, 1, 9)", x.arc(0, 1, 9), 0);
        due("about(0, 2)", x.about(0, 2), 9);
    }

    @Edge("OUTSIDE: cards")
    static void promise3_oneLessThanTheLeastCards() {
        due("arc(0, 1, -1)", stations(1, 1).arc(0, 1, -1), OUTSIDE);
    }

    @Edge("OUTSIDE: cards")
    static void promise3_oneMoreThanTheGreatestCards() {
        due("arc(0, 1, 10)", stations(1, 1).arc(0, 1, 10), OUTSIDE);
    }

    @Edge("OUTSIDE: cards")
    static void promise3_farthestCards() {
        due("arc(0, 1, LOW)", stations(1, 1).arc(0, 1, LOW), OUTSIDE);
        due("arc(0, 1, HIGH)", stations(1, 1).arc(0, 1, HIGH), OUTSIDE);
    }

    @Edge("REFUSALS, of several the first that a call names")
    static void promise3_unknownAheadOfOutside() {
        due("arc(1, 0, 10)", stations(1).arc(1, 0, 10), UNKNOWN);
        due("arc(0, 1, -1)", stations(1).arc(0, 1, -1), UNKNOWN);
    }

    @Edge("REFUSALS, of several the first that a call names")
    static void promise3_unknownAheadOfFull() {
        due("arc(1, 0, 0), the 17th", sixteenOwn(1, 1).arc(1, 0, 0), UNKNOWN);
        due("arc(0, -1, 0), the 17th", sixteenOwn(1, 1).arc(0, -1, 0), UNKNOWN);
    }

    @Edge("REFUSALS, of several the first that a call names")
    static void promise3_outsideAheadOfFull() {
        due("arc(0, 0, 10), the 17th", sixteenOwn(1, 1).arc(0, 0, 10), OUTSIDE);
        due("arc(0, 0, -1), the 17th", sixteenOwn(1, 1).arc(0, 0, -1), OUTSIDE);
    }

    @Edge("REFUSALS, of several the first that a call names")
    static void promise3_unknownAheadOfOutsideAndFull() {
        due("arc(0, 1, 10), the 17th", sixteenOwn(1, 1).arc(0, 1, 10), UNKNOWN);
        due("arc(-1, 0, -1), the 17th", sixteenOwn(1, 1).arc(-1, 0, -1), UNKNOWN);
    }

    @Edge("What is refused changes nothing.")
    static void promise3_unknownChangesNothing() {
        refusedUnchanged(Edges::something, "arc(3, 0, 1)", x -> x.arc(3, 0, 1), UNKNOWN);
        refusedUnchanged(Edges::something, "arc(0, 3, 1)", x -> x.arc(0, 3, 1), UNKNOWN);
    }

    @Edge("What is refused changes nothing.")
    static void promise3_outsideChangesNothing() {
        refusedUnchanged(Edges::something, "arc(0, 0, 10)", x -> x.arc(0, 0, 10), OUTSIDE);
        refusedUnchanged(Edges::something, "arc(0, 0, -1)", x -> x.arc(0, 0, -1), OUTSIDE);
    }

    @Edge("What is refused changes nothing.")
    static void promise3_fullChangesNothing() {
        refusedUnchanged(Edges::everything, "arc(0, 0, 1)", x -> x.arc(0, 0, 1), FULL);
    }

    // ---- 4

    @Edge("A STATION gets another TIME: what it was. UNKNOWN; OUTSIDE.")
    static void promise4_noStationYet() {
        due("time(0, 1)", new PullCards().time(0, 1), UNKNOWN);
    }

    @Edge("STATIONS 0 .. 7 have a TIME (1 to 20 ticks)")
    static void promise4_leastAndGreatestStation() {
        PullCards x = stations(1, 2, 3, 4, 5, 6, 7, 8);
        due("time(0, 20)", x.time(0, 20), 1);
        due("time(7, 20)", x.time(7, 20), 8);
        due("time(6, 20), as it was", x.time(6, 20), 7);
    }

    @Edge("STATIONS 0 .. 7 have a TIME (1 to 20 ticks)")
    static void promise4_leastTime() {
        PullCards x = own(5, 1);
        due("time(0, 1)", x.time(0, 1), 5);
        due("sum(0, false)", x.sum(0, false), 1);
        due("time(0, 5)", x.time(0, 5), 1);
    }

    @Edge("STATIONS 0 .. 7 have a TIME (1 to 20 ticks)")
    static void promise4_greatestTime() {
        PullCards x = own(5, 1);
        due("time(0, 20)", x.time(0, 20), 5);
        due("sum(0, false)", x.sum(0, false), 20);
        due("time(0, 5)", x.time(0, 5), 20);
    }

    @Edge("A STATION gets another TIME: what it was.")
    static void promise4_theSameTimeAgain() {
        PullCards x = stations(5);
        due("time(0, 5)", x.time(0, 5), 5);
        due("time(0, 5), again", x.time(0, 5), 5);
    }

    @Edge("UNKNOWN; OUTSIDE.")
    static void promise4_oneLessThanTheLeastStation() {
        due("time(-1, 1)", stations(5).time(-1, 1), UNKNOWN);
    }

    @Edge("UNKNOWN; OUTSIDE.")
    static void promise4_oneMoreThanTheGreatestStation() {
        due("time(1, 1)", stations(5).time(1, 1), UNKNOWN);
        due("time(8, 1)", eightStations(5).time(8, 1), UNKNOWN);
    }

    @Edge("UNKNOWN; OUTSIDE.")
    static void promise4_farthestStations() {
        due("time(LOW, 1)", eightStations(5).time(LOW, 1), UNKNOWN);
        due("time(HIGH, 1)", eightStations(5).time(HIGH, 1), UNKNOWN);
    }

    @Edge("UNKNOWN; OUTSIDE.")
    static void promise4_oneLessThanTheLeastTime() {
        due("time(0, 0)", stations(5).time(0, 0), OUTSIDE);
    }

    @Edge("UNKNOWN; OUTSIDE.")
    static void promise4_oneMoreThanTheGreatestTime() {
        due("time(0, 21)", stations(5).time(0, 21), OUTSIDE);
    }

    @Edge("UNKNOWN; OUTSIDE.")
    static void promise4_farthestTimes() {
        due("time(0, LOW)", stations(5).time(0, LOW), OUTSIDE);
        due("time(0, HIGH)", stations(5).time(0, HIGH), OUTSIDE);
    }

    @Edge("REFUSALS, of several the first that a call names")
    static void promise4_unknownAheadOfOutside() {
        due("time(1, 0)", stations(5).time(1, 0), UNKNOWN);
        due("time(-1, 21)", stations(5).time(-1, 21), UNKNOWN);
        due("time(8, 21)", eightStations(5).time(8, 21), UNKNOWN);
    }

    @Edge("What is refused changes nothing.")
    static void promise4_unknownChangesNothing() {
        refusedUnchanged(Edges::something, "time(3, 9)", x -> x.time(3, 9), UNKNOWN);
        refusedUnchanged(Edges::everything, "time(8, 9)", x -> x.time(8, 9), UNKNOWN);
    }

    @Edge("What is refused changes nothing.")
    static void promise4_outsideChangesNothing() {
        refusedUnchanged(Edges::something, "time(0, 0)", x -> x.time(0, 0), OUTSIDE);
        refusedUnchanged(Edges::something, "time(2, 21)", x -> x.time(2, 21), OUTSIDE);
    }

    // ---- 5

    @Edge("An ARC gets CARDS: how many it had. UNKNOWN; OUTSIDE.")
    static void promise5_noArcYet() {
        due("put(0, 1)", new PullCards().put(0, 1), UNKNOWN);
        due("put(0, 1), stations alone", stations(1, 1).put(0, 1), UNKNOWN);
    }

    @Edge("ARCS 0 .. 15 lead from a STATION to another one, or the same")
    static void promise5_leastAndGreatestArc() {
        PullCards x = doubledRing(1, 4);
        due("put(0, 5)", x.put(0, 5), 4);
        due("put(15, 6)", x.put(15, 6), 4);
        due("about(0, 2)", x.about(0, 2), 5);
        due("about(15, 2)", x.about(15, 2), 6);
        due("about(14, 2), as it was", x.about(14, 2), 4);
    }

    @Edge("each has CARDS on it (0 to 9)")
    static void promise5_leastCards() {
        PullCards x = own(1, 9);
        due("put(0, 0)", x.put(0, 0), 9);
        due("about(0, 2)", x.about(0, 2), 0);
    }

    @Edge("each has CARDS on it (0 to 9)")
    static void promise5_greatestCards() {
        PullCards x = own(1, 0);
        due("put(0, 9)", x.put(0, 9), 0);
        due("about(0, 2)", x.about(0, 2), 9);
    }

    @Edge("An ARC gets CARDS: how many it had.")
    static void promise5_inPlaceOfThoseThatItHad() {
        PullCards x = own(1, 9);
        due("put(0, 9)", x.put(0, 9), 9);
        due("put(0, 2)", x.put(0, 2), 9);
        due("put(0, 3)", x.put(0, 3), 2);
        due("total(2)", x.total(2), 3);
    }

    @Edge("UNKNOWN; OUTSIDE.")
    static void promise5_oneLessThanTheLeastArc() {
        due("put(-1, 1)", own(1, 1).put(-1, 1), UNKNOWN);
    }

    @Edge("UNKNOWN; OUTSIDE.")
    static void promise5_oneMoreThanTheGreatestArc() {
        due("put(1, 1)", own(1, 1).put(1, 1), UNKNOWN);
        due("put(16, 1)", sixteenOwn(1, 1).put(16, 1), UNKNOWN);
    }

    @Edge("UNKNOWN; OUTSIDE.")
    static void promise5_farthestArcs() {
        due("put(LOW, 1)", sixteenOwn(1, 1).put(LOW, 1), UNKNOWN);
        due("put(HIGH, 1)", sixteenOwn(1, 1).put(HIGH, 1), UNKNOWN);
    }

    @Edge("UNKNOWN; OUTSIDE.")
    static void promise5_oneLessThanTheLeastCards() {
        due("put(0, -1)", own(1, 1).put(0, -1), OUTSIDE);
    }

    @Edge("UNKNOWN; OUTSIDE.")
    static void promise5_oneMoreThanTheGreatestCards() {
        due("put(0, 10)", own(1, 1).put(0, 10), OUTSIDE);
    }

    @Edge("UNKNOWN; OUTSIDE.")
    static void promise5_farthestCards() {
        due("put(0, LOW)", own(1, 1).put(0, LOW), OUTSIDE);
        due("put(0, HIGH)", own(1, 1).put(0, HIGH), OUTSIDE);
    }

    @Edge("REFUSALS, of several the first that a call names")
    static void promise5_unknownAheadOfOutside() {
        due("put(1, 10)", own(1, 1).put(1, 10), UNKNOWN);
        due("put(-1, -1)", own(1, 1).put(-1, -1), UNKNOWN);
        due("put(16, 10)", sixteenOwn(1, 1).put(16, 10), UNKNOWN);
    }

    @Edge("What is refused changes nothing.")
    static void promise5_unknownChangesNothing() {
        refusedUnchanged(Edges::something, "put(5, 7)", x -> x.put(5, 7), UNKNOWN);
        refusedUnchanged(Edges::everything, "put(16, 7)", x -> x.put(16, 7), UNKNOWN);
    }

    @Edge("What is refused changes nothing.")
    static void promise5_outsideChangesNothing() {
        refusedUnchanged(Edges::something, "put(0, 10)", x -> x.put(0, 10), OUTSIDE);
        refusedUnchanged(Edges::something, "put(4, -1)", x -> x.put(4, -1), OUTSIDE);
    }

    // ---- 6

    @Edge("An ARC: from (what = 0), to (1), its CARDS (2). UNKNOWN; OUTSIDE.")
    static void promise6_noArcYet() {
        due("about(0, 0)", new PullCards().about(0, 0), UNKNOWN);
        due("about(0, 0), stations alone", stations(1, 1).about(0, 0), UNKNOWN);
    }

    @Edge("An ARC: from (what = 0), to (1), its CARDS (2).")
    static void promise6_leastWhat() {
        due("about(1, 0)", pair(5, 6).about(1, 0), 1);
    }

    @Edge("An ARC: from (what = 0), to (1), its CARDS (2).")
    static void promise6_whatBetween() {
        due("about(0, 1)", pair(5, 6).about(0, 1), 1);
        due("about(1, 1)", pair(5, 6).about(1, 1), 0);
    }

    @Edge("An ARC: from (what = 0), to (1), its CARDS (2).")
    static void promise6_greatestWhat() {
        due("about(1, 2)", pair(5, 6).about(1, 2), 6);
    }

    @Edge("UNKNOWN; OUTSIDE.")
    static void promise6_oneLessThanTheLeastWhat() {
        due("about(0, -1)", pair(5, 6).about(0, -1), OUTSIDE);
    }

    @Edge("UNKNOWN; OUTSIDE.")
    static void promise6_oneMoreThanTheGreatestWhat() {
        due("about(0, 3)", pair(5, 6).about(0, 3), OUTSIDE);
    }

    @Edge("UNKNOWN; OUTSIDE.")
    static void promise6_farthestWhats() {
        due("about(0, LOW)", pair(5, 6).about(0, LOW), OUTSIDE);
        due("about(0, HIGH)", pair(5, 6).about(0, HIGH), OUTSIDE);
    }

    @Edge("ARCS 0 .. 15 lead from a STATION to another one, or the same")
    static void promise6_leastAndGreatestArc() {
        PullCards x = doubledRing(1, 4);
        due("about(0, 0)", x.about(0, 0), 0);
        due("about(0, 1)", x.about(0, 1), 1);
        due("about(15, 0)", x.about(15, 0), 7);
        due("about(15, 1)", x.about(15, 1), 0);
    }

    @Edge("each has CARDS on it (0 to 9)")
    static void promise6_leastAndGreatestCards() {
        due("about(0, 2)", pair(0, 9).about(0, 2), 0);
        due("about(1, 2)", pair(0, 9).about(1, 2), 9);
    }

    @Edge("UNKNOWN; OUTSIDE.")
    static void promise6_oneLessThanTheLeastArc() {
        due("about(-1, 0)", pair(5, 6).about(-1, 0), UNKNOWN);
    }

    @Edge("UNKNOWN; OUTSIDE.")
    static void promise6_oneMoreThanTheGreatestArc() {
        due("about(2, 0)", pair(5, 6).about(2, 0), UNKNOWN);
        due("about(16, 2)", sixteenOwn(1, 1).about(16, 2), UNKNOWN);
    }

    @Edge("UNKNOWN; OUTSIDE.")
    static void promise6_farthestArcs() {
        due("about(LOW, 0)", sixteenOwn(1, 1).about(LOW, 0), UNKNOWN);
        due("about(HIGH, 0)", sixteenOwn(1, 1).about(HIGH, 0), UNKNOWN);
    }

    @Edge("REFUSALS, of several the first that a call names")
    static void promise6_unknownAheadOfOutside() {
        due("about(2, 3)", pair(5, 6).about(2, 3), UNKNOWN);
        due("about(-1, -1)", pair(5, 6).about(-1, -1), UNKNOWN);
        due("about(0, 3), no arc yet", stations(1).about(0, 3), UNKNOWN);
    }

    @Edge("What is refused changes nothing.")
    static void promise6_refusedChangesNothing() {
        refusedUnchanged(Edges::something, "about(5, 0)", x -> x.about(5, 0), UNKNOWN);
        refusedUnchanged(Edges::something, "about(0, 3)", x -> x.about(0, 3), OUTSIDE);
    }

    // ---- 7

    @Edge("Whether a STATION is READY: 1, 0. UNKNOWN.")
    static void promise7_noStationYet() {
        due("ready(0)", new PullCards().ready(0), UNKNOWN);
    }

    @Edge("A STATION is READY, if each ARC to it has a CARD.")
    static void promise7_noArcToIt() {
        due("ready(0), no arc at all", stations(1).ready(0), 1);
        PullCards x = stations(1, 1);
        x.arc(0, 1, 0);
        due("ready(0), a bare arc from it", x.ready(0), 1);
    }

    @Edge("A STATION is READY, if each ARC to it has a CARD.")
    static void promise7_noCard() {
        due("ready(1)", pair(0, 9).ready(1), 0);
    }

    @Edge("A STATION is READY, if each ARC to it has a CARD.")
    static void promise7_oneCard() {
        due("ready(1)", pair(1, 0).ready(1), 1);
    }

    @Edge("A STATION is READY, if each ARC to it has a CARD.")
    static void promise7_nineCards() {
        due("ready(1)", pair(9, 0).ready(1), 1);
    }

    @Edge("A STATION is READY, if each ARC to it has a CARD.")
    static void promise7_noRoomBehindIt() {
        due("ready(0), nine on the arc from it", pair(9, 1).ready(0), 1);
    }

    @Edge("A STATION is READY, if each ARC to it has a CARD.")
    static void promise7_oneArcOfSixteenWithout() {
        PullCards x = sixteenOwn(1, 1);
        due("ready(0), all with", x.ready(0), 1);
        x.put(15, 0);
        due("ready(0), the last one without", x.ready(0), 0);
        x.put(15, 1);
        x.put(0, 0);
        due("ready(0), the first one without", x.ready(0), 0);
    }

    @Edge("A STATION is READY, if each ARC to it has a CARD.")
    static void promise7_arcToItself() {
        due("ready(0), bare", own(1, 0).ready(0), 0);
        due("ready(0), a card", own(1, 1).ready(0), 1);
    }

    @Edge("STATIONS 0 .. 7 have a TIME (1 to 20 ticks)")
    static void promise7_leastAndGreatestStation() {
        PullCards x = ring(1, 0, 1);
        due("ready(0)", x.ready(0), 1);
        due("ready(7)", x.ready(7), 0);
        x.put(6, 1);
        due("ready(7), a card", x.ready(7), 1);
    }

    @Edge("Whether a STATION is READY: 1, 0. UNKNOWN.")
    static void promise7_oneLessThanTheLeastStation() {
        due("ready(-1)", pair(1, 1).ready(-1), UNKNOWN);
    }

    @Edge("Whether a STATION is READY: 1, 0. UNKNOWN.")
    static void promise7_oneMoreThanTheGreatestStation() {
        due("ready(2)", pair(1, 1).ready(2), UNKNOWN);
        due("ready(8)", eightStations(1).ready(8), UNKNOWN);
    }

    @Edge("Whether a STATION is READY: 1, 0. UNKNOWN.")
    static void promise7_farthestStations() {
        due("ready(LOW)", eightStations(1).ready(LOW), UNKNOWN);
        due("ready(HIGH)", eightStations(1).ready(HIGH), UNKNOWN);
    }

    @Edge("What is refused changes nothing.")
    static void promise7_refusedChangesNothing() {
        refusedUnchanged(Edges::something, "ready(3)", x -> x.ready(3), UNKNOWN);
    }

    // ---- 8

    @Edge("It FIRES: how many STATIONS are READY then. UNKNOWN; STATE: it is not READY;")
    static void promise8_noStationYet() {
        due("fire(0)", new PullCards().fire(0), UNKNOWN);
    }

    @Edge("It FIRES: how many STATIONS are READY then.")
    static void promise8_noArc() {
        due("fire(0), the only one", stations(1).fire(0), 1);
        due("fire(7), all eight", eightStations(1).fire(7), 8);
    }

    @Edge("It FIRES: how many STATIONS are READY then.")
    static void promise8_noneReadyThen() {
        // Station 1 can't be ready by its bare arc to itself.
        PullCards x = pair(0, 1);
        x.arc(1, 1, 0);
        due("fire(0)", x.fire(0), 0);
        due("total(5)", x.total(5), 0);
    }

    @Edge("To FIRE it takes one CARD from each ARC to it and puts one on each ARC from it")
    static void promise8_oneCardIsEnough() {
        PullCards x = pair(0, 1);
        due("fire(0)", x.fire(0), 1);
        due("about(0, 2)", x.about(0, 2), 1);
        due("about(1, 2)", x.about(1, 2), 0);
    }

    @Edge("STATE: it is not READY")
    static void promise8_noCard() {
        due("fire(0)", pair(9, 0).fire(0), STATE);
        due("fire(1)", pair(0, 9).fire(1), STATE);
        due("fire(0), one arc of 16 bare", oneOfSixteen(0).fire(0), STATE);
    }

    /** One station with 16 arcs to itself, 9 cards on each but the last one. */
    private static PullCards oneOfSixteen(int cards) {
        PullCards x = sixteenOwn(1, 9);
        x.put(15, cards);
        return x;
    }

    @Edge("(of an ARC from it to itself: as many as were)")
    static void promise8_arcToItself() {
        PullCards one = own(1, 1);
        due("fire(0), one card", one.fire(0), 1);
        due("about(0, 2)", one.about(0, 2), 1);
        due("fire(0), no card", own(1, 0).fire(0), STATE);
    }

    @Edge("(of an ARC from it to itself: as many as were)")
    static void promise8_arcToItselfWithNine() {
        PullCards x = own(1, 9);
        due("fire(0)", x.fire(0), 1);
        due("about(0, 2)", x.about(0, 2), 9);
        due("fire(0), 16 arcs with 9", sixteenOwn(1, 9).fire(0), 1);
    }

    @Edge("FULL: an ARC would have more than 9 (nothing happens).")
    static void promise8_nineAfterwards() {
        PullCards x = pair(8, 1);
        due("fire(0)", x.fire(0), 1);
        due("about(0, 2)", x.about(0, 2), 9);
    }

    @Edge("FULL: an ARC would have more than 9 (nothing happens).")
    static void promise8_tenAfterwards() {
        PullCards x = pair(9, 1);
        due("fire(0)", x.fire(0), FULL);
        due("about(0, 2)", x.about(0, 2), 9);
        due("about(1, 2)", x.about(1, 2), 1);
    }

    @Edge("FULL: an ARC would have more than 9 (nothing happens).")
    static void promise8_oneArcOfSixteenHasNoRoom() {
        PullCards x = stations(1, 1);
        for (int i = 0; i < 16; i++) {
            x.arc(0, 1, i == 15 ? 9 : 3);
        }
        due("fire(0)", x.fire(0), FULL);
        due("total(2)", x.total(2), 54);
        x.put(15, 8);
        due("fire(0), room on all", x.fire(0), 2);
        due("total(2), one more on each", x.total(2), 69);
        due("fire(0), 9 on the last one", x.fire(0), FULL);
        due("fire(1), one less on each", x.fire(1), 2);
        due("total(2), one less on each", x.total(2), 53);
    }

    @Edge("STATIONS 0 .. 7 have a TIME (1 to 20 ticks)")
    static void promise8_leastAndGreatestStation() {
        PullCards x = ring(1, 0, 1);
        due("fire(0)", x.fire(0), 1);
        due("about(0, 2)", x.about(0, 2), 1);
        PullCards y = ring(1, 1, 0);
        due("fire(7)", y.fire(7), 7);
        due("about(7, 2)", y.about(7, 2), 1);
    }

    @Edge("It FIRES: how many STATIONS are READY then. UNKNOWN")
    static void promise8_oneLessThanTheLeastStation() {
        due("fire(-1)", pair(1, 1).fire(-1), UNKNOWN);
    }

    @Edge("It FIRES: how many STATIONS are READY then. UNKNOWN")
    static void promise8_oneMoreThanTheGreatestStation() {
        due("fire(2)", pair(1, 1).fire(2), UNKNOWN);
        due("fire(8)", eightStations(1).fire(8), UNKNOWN);
    }

    @Edge("It FIRES: how many STATIONS are READY then. UNKNOWN")
    static void promise8_farthestStations() {
        due("fire(LOW)", eightStations(1).fire(LOW), UNKNOWN);
        due("fire(HIGH)", eightStations(1).fire(HIGH), UNKNOWN);
    }

    @Edge("REFUSALS, of several the first that a call names")
    static void promise8_stateAheadOfFull() {
        due("fire(0), not ready, no room", pair(9, 0).fire(0), STATE);
    }

    @Edge("What is refused changes nothing.")
    static void promise8_unknownChangesNothing() {
        refusedUnchanged(Edges::something, "fire(3)", x -> x.fire(3), UNKNOWN);
    }

    @Edge("What is refused changes nothing.")
    static void promise8_stateChangesNothing() {
        // Station 0 has a card on arc 1, and none on arc 4.
        refusedUnchanged(Edges::something, "fire(0)", x -> x.fire(0), STATE);
    }

    @Edge("(nothing happens)")
    static void promise8_fullChangesNothing() {
        refusedUnchanged(Edges::everything, "fire(3)", x -> x.fire(3), FULL);
    }

    @Edge("An object is used for at most 512 calls after it has been made")
    static void promise8_the512thCall() {
        // 16 calls make the ring and one turns it; the 512th asks where the card is.
        PullCards x = ring(1, 0, 1);
        x.round();
        for (int call = 0; call < 494; call++) {
            due("fire(" + call % 8 + ")", x.fire(call % 8), 1);
        }
        due("about(5, 2), after 494 = 61 * 8 + 6 works", x.about(5, 2), 1);
    }

    // ---- 9

    @Edge("The STATIONS FIRE by number, one round")
    static void promise9_noStationYet() {
        due("round()", new PullCards().round(), 0);
    }

    @Edge("each that is READY as its turn comes")
    static void promise9_noneReady() {
        due("round(), no card", ring(1, 0, 0).round(), 0);
        due("round(), no card to itself", own(1, 0).round(), 0);
    }

    @Edge("each that is READY as its turn comes, and whose ARCS have room, one time: how many did")
    static void promise9_allEight() {
        due("round(), no arcs", eightStations(1).round(), 8);
        due("round(), a card on each arc", ring(1, 1, 1).round(), 8);
    }

    @Edge("The STATIONS FIRE by number, one round: each that is READY as its turn comes")
    static void promise9_oneCardGoesAllTheWay() {
        PullCards x = ring(1, 0, 1);
        due("round()", x.round(), 8);
        due("about(7, 2)", x.about(7, 2), 1);
        due("total(2)", x.total(2), 1);
    }

    @Edge("The STATIONS FIRE by number, one round: each that is READY as its turn comes")
    static void promise9_turnGoneBy() {
        // The card reaches station 0 when its turn is over.
        PullCards x = ring(1, 0, 0);
        x.put(6, 1);
        due("round()", x.round(), 1);
        due("about(7, 2)", x.about(7, 2), 1);
        due("about(0, 2)", x.about(0, 2), 0);
    }

    @Edge("one time")
    static void promise9_oneTimeEach() {
        PullCards x = stations(1, 1);
        x.arc(0, 1, 0);
        due("round(), 0 could fire nine times", x.round(), 2);
        due("about(0, 2)", x.about(0, 2), 0);
        PullCards y = own(1, 9);
        due("round(), nine cards to itself", y.round(), 1);
    }

    @Edge("whose ARCS have room")
    static void promise9_noRoom() {
        PullCards x = stations(1, 1);
        x.arc(1, 0, 9);
        x.arc(1, 0, 0);
        due("round(), 0 not ready, 1 has no room", x.round(), 0);
        due("total(2)", x.total(2), 9);
    }

    @Edge("whose ARCS have room")
    static void promise9_roomForOne() {
        PullCards x = stations(1, 1);
        x.arc(1, 0, 8);
        x.arc(1, 0, 0);
        due("round(), 0 not ready, 1 has room", x.round(), 1);
        due("about(0, 2)", x.about(0, 2), 9);
    }

    @Edge("each that is READY as its turn comes, and whose ARCS have room, one time")
    static void promise9_roomComesWithTheTurn() {
        PullCards x = stations(1, 1);
        x.arc(1, 0, 9);
        due("round(), 0 makes room for 1", x.round(), 2);
        due("about(0, 2)", x.about(0, 2), 9);
        PullCards y = stations(1, 1);
        y.arc(0, 1, 9);
        due("round(), 1 makes room too late", y.round(), 1);
        due("about(0, 2)", y.about(0, 2), 8);
    }

    @Edge("(of an ARC from it to itself: as many as were)")
    static void promise9_nineToItself() {
        PullCards x = sixteenOwn(1, 9);
        due("round()", x.round(), 1);
        due("total(2)", x.total(2), 144);
    }

    @Edge("The STATIONS FIRE by number, one round")
    static void promise9_allFull() {
        PullCards x = doubledRing(1, 9);
        due("round(), 9 on each arc", x.round(), 0);
        due("total(2)", x.total(2), 144);
    }
}
