/** The edges of promises 24 to 28: kinds, their row, and what there is in all. */
public final class KindEdgesTest extends Edges {
    public static void main(String[] args) throws Exception {
        run(KindEdgesTest.class, 24, 28);
    }

    /** The longest row that there can be, of 120 places: 0 1 2 3 4 5, twenty times. */
    private static PullCards longestRow() {
        return demands(20, 20, 20, 20, 20, 20);
    }

    private static void dueRow(PullCards x, int... want) {
        for (int place = 0; place < want.length; place++) {
            due("at(" + place + ")", x.at(place), want[place]);
        }
        due("at(" + want.length + "), behind the row", x.at(want.length), NONE);
    }

    // ---- 24

    @Edge("KINDS 0 .. 5 have a DEMAND (0 to 20).")
    static void promise24_leastAndGreatestKind() {
        PullCards x = new PullCards();
        due("demand(0, 3)", x.demand(0, 3), 0);
        due("demand(5, 4)", x.demand(5, 4), 0);
        due("demand(0, 1)", x.demand(0, 1), 3);
        due("demand(5, 1)", x.demand(5, 1), 4);
        dueRow(x, 0, 5);
    }

    @Edge("UNKNOWN; OUTSIDE.")
    static void promise24_oneLessThanTheLeastKind() {
        due("demand(-1, 1)", new PullCards().demand(-1, 1), UNKNOWN);
    }

    @Edge("UNKNOWN; OUTSIDE.")
    static void promise24_oneMoreThanTheGreatestKind() {
        due("demand(6, 1)", new PullCards().demand(6, 1), UNKNOWN);
    }

    @Edge("UNKNOWN; OUTSIDE.")
    static void promise24_farthestKinds() {
        due("demand(LOW, 1)", new PullCards().demand(LOW, 1), UNKNOWN);
        due("demand(HIGH, 1)", new PullCards().demand(HIGH, 1), UNKNOWN);
    }

    @Edge("KINDS 0 .. 5 have a DEMAND (0 to 20).")
    static void promise24_leastDemand() {
        PullCards x = demands(20);
        due("demand(0, 0)", x.demand(0, 0), 20);
        due("demand(0, 0), as it was", x.demand(0, 0), 0);
        due("total(4)", x.total(4), 0);
    }

    @Edge("KINDS 0 .. 5 have a DEMAND (0 to 20).")
    static void promise24_greatestDemand() {
        PullCards x = new PullCards();
        due("demand(3, 20)", x.demand(3, 20), 0);
        due("demand(3, 20), as it was", x.demand(3, 20), 20);
        due("total(4)", x.total(4), 20);
    }

    @Edge("UNKNOWN; OUTSIDE.")
    static void promise24_oneLessThanTheLeastDemand() {
        due("demand(0, -1)", new PullCards().demand(0, -1), OUTSIDE);
    }

    @Edge("UNKNOWN; OUTSIDE.")
    static void promise24_oneMoreThanTheGreatestDemand() {
        due("demand(5, 21)", new PullCards().demand(5, 21), OUTSIDE);
    }

    @Edge("UNKNOWN; OUTSIDE.")
    static void promise24_farthestDemands() {
        due("demand(0, LOW)", new PullCards().demand(0, LOW), OUTSIDE);
        due("demand(0, HIGH)", new PullCards().demand(0, HIGH), OUTSIDE);
    }

    @Edge("REFUSALS, of several the first that a call names")
    static void promise24_unknownAheadOfOutside() {
        due("demand(6, 21)", new PullCards().demand(6, 21), UNKNOWN);
        due("demand(-1, -1)", new PullCards().demand(-1, -1), UNKNOWN);
    }

    @Edge("What is refused changes nothing.")
    static void promise24_unknownChangesNothing() {
        refusedUnchanged(Edges::something, "demand(6, 9)", x -> x.demand(6, 9), UNKNOWN);
        refusedUnchanged(Edges::something, "demand(-1, 9)", x -> x.demand(-1, 9), UNKNOWN);
    }

    @Edge("What is refused changes nothing.")
    static void promise24_outsideChangesNothing() {
        refusedUnchanged(Edges::something, "demand(0, 21)", x -> x.demand(0, 21), OUTSIDE);
        refusedUnchanged(Edges::something, "demand(5, -1)", x -> x.demand(5, -1), OUTSIDE);
    }

    // ---- 25

    @Edge("The KIND at a place of THE ROW; NONE: there is none such.")
    static void promise25_noPlaceYet() {
        due("at(0)", new PullCards().at(0), NONE);
        due("at(-1)", new PullCards().at(-1), NONE);
    }

    @Edge("The KIND at a place of THE ROW; NONE: there is none such.")
    static void promise25_noPlaceAnyMore() {
        PullCards x = demands(1);
        due("at(0)", x.at(0), 0);
        x.demand(0, 0);
        due("at(0), no demand", x.at(0), NONE);
    }

    @Edge("THE ROW has as many places as all DEMANDS together, n")
    static void promise25_onePlace() {
        dueRow(demands(0, 0, 0, 0, 0, 1), 5);
    }

    @Edge("THE ROW has as many places as all DEMANDS together, n")
    static void promise25_firstAndLastPlace() {
        due("at(0)", longestRow().at(0), 0);
        due("at(119)", longestRow().at(119), 5);
    }

    @Edge("NONE: there is none such.")
    static void promise25_oneLessThanTheFirstPlace() {
        due("at(-1)", longestRow().at(-1), NONE);
    }

    @Edge("NONE: there is none such.")
    static void promise25_oneMoreThanTheLastPlace() {
        due("at(120)", longestRow().at(120), NONE);
        due("at(1), one place", demands(1).at(1), NONE);
        due("at(20), 20 places", demands(0, 20).at(20), NONE);
    }

    @Edge("NONE: there is none such.")
    static void promise25_farthestPlaces() {
        due("at(LOW)", longestRow().at(LOW), NONE);
        due("at(HIGH)", longestRow().at(HIGH), NONE);
    }

    @Edge("of like ones the least")
    static void promise25_likeOnes() {
        dueRow(demands(2, 2), 0, 1, 0, 1);
        dueRow(demands(0, 0, 1, 0, 1, 1), 2, 4, 5);
    }

    @Edge("(So each comes as many times as its DEMAND.)")
    static void promise25_asManyTimesAsItsDemand() {
        int[] demands = {20, 0, 1, 19, 2, 7};
        PullCards x = demands(demands);
        int[] came = new int[6];
        for (int place = 0; place < 49; place++) {
            int kind = x.at(place);
            if (kind >= 0 && kind < 6) {
                came[kind]++;
            }
        }
        for (int kind = 0; kind < 6; kind++) {
            due("how many of " + kind + " came", came[kind], demands[kind]);
        }
        due("at(49)", x.at(49), NONE);
    }

    @Edge("of those not all of which have come")
    static void promise25_leastAgainstGreatestDemand() {
        // 20 (p + 1) - 21 p falls to 10 at place 10; p + 1 rises to 11 there.
        PullCards x = demands(1, 20);
        for (int place = 0; place < 21; place++) {
            due("at(" + place + ")", x.at(place), place == 10 ? 0 : 1);
        }
        // The kinds the other way round, at place 10 the single one is ahead, too.
        PullCards y = demands(20, 1);
        for (int place = 0; place < 21; place++) {
            due("at(" + place + ")", y.at(place), place == 10 ? 1 : 0);
        }
    }

    // ---- 26

    @Edge("The greatest, over all places and KINDS, of how far")
    static void promise26_noPlaceYet() {
        due("rough()", new PullCards().rough(), 0);
        PullCards x = demands(1, 4);
        x.demand(0, 0);
        x.demand(1, 0);
        due("rough(), no place any more", x.rough(), 0);
    }

    @Edge("how far n times how many came to a place (it counted) are from DEMAND times the places gone by")
    static void promise26_onePlace() {
        due("rough()", demands(1).rough(), 0);
    }

    @Edge("how far n times how many came to a place (it counted) are from DEMAND times the places gone by")
    static void promise26_oneKind() {
        due("rough(), 20 places", demands(0, 0, 0, 0, 0, 20).rough(), 0);
    }

    @Edge("how far n times how many came to a place (it counted) are from DEMAND times the places gone by")
    static void promise26_twoPlaces() {
        // After one place: 2 - 1 and 0 - 1.
        due("rough()", demands(1, 1).rough(), 1);
    }

    @Edge("The greatest, over all places and KINDS")
    static void promise26_greatestAheadOfItsDue() {
        // 0 0 1 0 0: kind 0 is after two places at 10 - 8, kind 1 at 0 - 2, then at 5 - 3.
        due("rough(), 0 0 1 0 0", demands(4, 1).rough(), 2);
        // After ten places without it the single one is at 0 - 10, the others at 210 - 200.
        due("rough(), 20 and 1", demands(20, 1).rough(), 10);
    }

    @Edge("The greatest, over all places and KINDS")
    static void promise26_leastKindAlone() {
        // 1 0 1 1 2 1 1 0 1: kind 0 is after two places at 9 - 4, the others at 4 at most anywhere.
        due("rough()", demands(2, 6, 1).rough(), 5);
    }

    @Edge("The greatest, over all places and KINDS")
    static void promise26_greatestKindAlone() {
        // 0 5 4 0 5 0 5: kind 5 is after four places at 7 - 12, the others at 4 at most anywhere.
        due("rough()", demands(3, 0, 0, 0, 1, 3).rough(), 5);
    }

    @Edge("The greatest, over all places and KINDS")
    static void promise26_longestRow() {
        // The first is at 120 - 20 after one place, the last at 0 - 100 after five.
        due("rough()", longestRow().rough(), 100);
    }

    @Edge("The greatest, over all places and KINDS")
    static void promise26_kindsWithoutDemand() {
        due("rough(), 0 has none", demands(0, 1, 1).rough(), 1);
    }

    // ---- 27

    @Edge("How many times the KIND changes from one place to the next one.")
    static void promise27_noPlaceYet() {
        due("changes()", new PullCards().changes(), 0);
        PullCards x = demands(1, 4);
        x.demand(0, 0);
        x.demand(1, 0);
        due("changes(), no place any more", x.changes(), 0);
    }

    @Edge("How many times the KIND changes from one place to the next one.")
    static void promise27_onePlace() {
        due("changes(), kind 0", demands(1).changes(), 0);
        due("changes(), kind 5", demands(0, 0, 0, 0, 0, 1).changes(), 0);
    }

    @Edge("How many times the KIND changes from one place to the next one.")
    static void promise27_twoPlaces() {
        due("changes(), 0 0", demands(2).changes(), 0);
        due("changes(), 0 1", demands(1, 1).changes(), 1);
    }

    @Edge("How many times the KIND changes from one place to the next one.")
    static void promise27_neverAndAlways() {
        due("changes(), 20 of one kind", demands(0, 0, 20).changes(), 0);
        due("changes(), 120 places", longestRow().changes(), 119);
    }

    @Edge("How many times the KIND changes from one place to the next one.")
    static void promise27_thereAndBack() {
        due("changes(), one of 21 is another kind", demands(1, 20).changes(), 2);
    }

    // ---- 28

    @Edge("0 STATIONS, 1 ARCS, 2 all CARDS, 3 B, 4 places of THE ROW, 5 STATIONS that are READY.")
    static void promise28_nothingYet() {
        for (int what = 0; what < 6; what++) {
            due("total(" + what + ")", new PullCards().total(what), 0);
        }
    }

    @Edge("0 STATIONS, 1 ARCS, 2 all CARDS, 3 B, 4 places of THE ROW, 5 STATIONS that are READY.")
    static void promise28_allThatThereCanBe() {
        PullCards x = doubledRing(1, 9);
        x.store(6);
        for (int kind = 0; kind < 6; kind++) {
            x.demand(kind, 20);
        }
        int[] want = {8, 16, 144, 6, 120, 8};
        for (int what = 0; what < 6; what++) {
            due("total(" + what + ")", x.total(what), want[what]);
        }
    }

    @Edge("0 STATIONS, 1 ARCS, 2 all CARDS, 3 B, 4 places of THE ROW, 5 STATIONS that are READY.")
    static void promise28_oneOfEach() {
        PullCards x = own(1, 1);
        x.store(1);
        x.demand(5, 1);
        for (int what = 0; what < 6; what++) {
            due("total(" + what + ")", x.total(what), 1);
        }
    }

    @Edge("2 all CARDS")
    static void promise28_noCards() {
        due("total(2)", doubledRing(1, 0).total(2), 0);
        due("total(5), none ready", doubledRing(1, 0).total(5), 0);
    }

    @Edge("5 STATIONS that are READY.")
    static void promise28_readyWithoutArcs() {
        due("total(5)", eightStations(1).total(5), 8);
    }

    @Edge("OUTSIDE.")
    static void promise28_oneLessThanTheLeastWhat() {
        due("total(-1)", new PullCards().total(-1), OUTSIDE);
    }

    @Edge("OUTSIDE.")
    static void promise28_oneMoreThanTheGreatestWhat() {
        due("total(6)", new PullCards().total(6), OUTSIDE);
    }

    @Edge("OUTSIDE.")
    static void promise28_farthestWhats() {
        due("total(LOW)", new PullCards().total(LOW), OUTSIDE);
        due("total(HIGH)", new PullCards().total(HIGH), OUTSIDE);
    }

    @Edge("What is refused changes nothing.")
    static void promise28_refusedChangesNothing() {
        refusedUnchanged(Edges::something, "total(6)", x -> x.total(6), OUTSIDE);
        refusedUnchanged(Edges::everything, "total(-1)", x -> x.total(-1), OUTSIDE);
    }

    @Edge("An object is used for at most 512 calls after it has been made")
    static void promise28_the512thCall() {
        PullCards x = new PullCards();
        for (int call = 0; call < 511; call++) {
            x.demand(call % 6, call % 21);
        }
        // The last six: demands 1, 2, 3, 4, 5, 6 from call 505 = 24 * 21 + 1 on.
        due("total(4), the 512th call", x.total(4), 21);
    }
}
