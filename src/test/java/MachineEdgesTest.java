/** The edges of promises 19 to 23: two machines, the store between them, chances. */
public final class MachineEdgesTest extends Edges {
    public static void main(String[] args) throws Exception {
        run(MachineEdgesTest.class, 19, 23);
    }

    /** Both are down from the first tick on. */
    private static PullCards neverUp() {
        return machines(4, 0, 4, 0, 6);
    }

    /** In each tick both are up by one sixteenth, if they were till then, else never again. */
    private static PullCards oneSixteenth() {
        return machines(3, 0, 3, 0, 0);
    }

    /**
     * The first is up for just f ticks by 1 by 2 to the f + 1, and then never again; the second is
     * up at ticks 2, 4, .. So the first alone fills the store at ticks 1, 3, .. as long as it lasts,
     * and what it leaves behind is taken at ticks 2, 4, .. after it.
     */
    private static PullCards firstLasts(int store) {
        return machines(2, 0, 4, 4, store);
    }

    private static void dueGiven(PullCards x, int ticks, long above, long below) {
        due("given(" + ticks + ", true)", x.given(ticks, true), above);
        due("given(" + ticks + ", false)", x.given(ticks, false), below);
    }

    private static void dueJust(PullCards x, int ticks, int many, long above, long below) {
        due("just(" + ticks + ", " + many + ", true)", x.just(ticks, many, true), above);
        due("just(" + ticks + ", " + many + ", false)", x.just(ticks, many, false), below);
    }

    // ---- 19

    @Edge("A machine (0, 1) gets its CHANCES: b and r: 10 b and r as they were.")
    static void promise19_leastMachine() {
        PullCards x = new PullCards();
        due("machine(0, 1, 2)", x.machine(0, 1, 2), 0);
        due("machine(0, 3, 0)", x.machine(0, 3, 0), 12);
        due("machine(1, 3, 0), not the other one", x.machine(1, 3, 0), 0);
    }

    @Edge("A machine (0, 1) gets its CHANCES: b and r: 10 b and r as they were.")
    static void promise19_greatestMachine() {
        PullCards x = new PullCards();
        due("machine(1, 1, 2)", x.machine(1, 1, 2), 0);
        due("machine(1, 3, 0)", x.machine(1, 3, 0), 12);
        due("machine(0, 3, 0), not the other one", x.machine(0, 3, 0), 0);
    }

    @Edge("UNKNOWN; OUTSIDE.")
    static void promise19_oneLessThanTheLeastMachine() {
        due("machine(-1, 0, 0)", new PullCards().machine(-1, 0, 0), UNKNOWN);
    }

    @Edge("UNKNOWN; OUTSIDE.")
    static void promise19_oneMoreThanTheGreatestMachine() {
        due("machine(2, 0, 0)", new PullCards().machine(2, 0, 0), UNKNOWN);
    }

    @Edge("UNKNOWN; OUTSIDE.")
    static void promise19_farthestMachines() {
        due("machine(LOW, 0, 0)", new PullCards().machine(LOW, 0, 0), UNKNOWN);
        due("machine(HIGH, 0, 0)", new PullCards().machine(HIGH, 0, 0), UNKNOWN);
    }

    @Edge("UP becomes DOWN by b quarters, DOWN becomes UP by r quarters (0 to 4 each;")
    static void promise19_leastChances() {
        PullCards x = machines(4, 4, 4, 4, 0);
        due("machine(0, 0, 0)", x.machine(0, 0, 0), 44);
        due("machine(0, 0, 0), as they were", x.machine(0, 0, 0), 0);
    }

    @Edge("UP becomes DOWN by b quarters, DOWN becomes UP by r quarters (0 to 4 each;")
    static void promise19_greatestChances() {
        PullCards x = new PullCards();
        due("machine(1, 4, 4)", x.machine(1, 4, 4), 0);
        due("machine(1, 4, 4), as they were", x.machine(1, 4, 4), 44);
    }

    @Edge("10 b and r as they were")
    static void promise19_leastAndGreatestTogether() {
        PullCards x = new PullCards();
        due("machine(0, 4, 0)", x.machine(0, 4, 0), 0);
        due("machine(0, 0, 4)", x.machine(0, 0, 4), 40);
        due("machine(0, 0, 0)", x.machine(0, 0, 0), 4);
    }

    @Edge("UNKNOWN; OUTSIDE.")
    static void promise19_oneLessThanTheLeastChances() {
        due("machine(0, -1, 0)", new PullCards().machine(0, -1, 0), OUTSIDE);
        due("machine(1, 0, -1)", new PullCards().machine(1, 0, -1), OUTSIDE);
    }

    @Edge("UNKNOWN; OUTSIDE.")
    static void promise19_oneMoreThanTheGreatestChances() {
        due("machine(0, 5, 0)", new PullCards().machine(0, 5, 0), OUTSIDE);
        due("machine(1, 0, 5)", new PullCards().machine(1, 0, 5), OUTSIDE);
    }

    @Edge("UNKNOWN; OUTSIDE.")
    static void promise19_farthestChances() {
        due("machine(0, LOW, 0)", new PullCards().machine(0, LOW, 0), OUTSIDE);
        due("machine(0, HIGH, 0)", new PullCards().machine(0, HIGH, 0), OUTSIDE);
        due("machine(0, 0, LOW)", new PullCards().machine(0, 0, LOW), OUTSIDE);
        due("machine(0, 0, HIGH)", new PullCards().machine(0, 0, HIGH), OUTSIDE);
    }

    @Edge("REFUSALS, of several the first that a call names")
    static void promise19_unknownAheadOfOutside() {
        due("machine(2, 5, 0)", new PullCards().machine(2, 5, 0), UNKNOWN);
        due("machine(-1, 0, -1)", new PullCards().machine(-1, 0, -1), UNKNOWN);
    }

    @Edge("What is refused changes nothing.")
    static void promise19_unknownChangesNothing() {
        refusedUnchanged(Edges::something, "machine(2, 4, 0)", x -> x.machine(2, 4, 0), UNKNOWN);
        refusedUnchanged(Edges::something, "machine(-1, 4, 0)", x -> x.machine(-1, 4, 0), UNKNOWN);
    }

    @Edge("What is refused changes nothing.")
    static void promise19_outsideChangesNothing() {
        // The number that is as told is not taken, either.
        refusedUnchanged(Edges::something, "machine(0, 4, 5)", x -> x.machine(0, 4, 5), OUTSIDE);
        refusedUnchanged(Edges::something, "machine(1, 5, 0)", x -> x.machine(1, 5, 0), OUTSIDE);
    }

    // ---- 20

    @Edge("a STORE between them for B (0 to 6)")
    static void promise20_leastB() {
        PullCards x = machines(0, 0, 0, 0, 6);
        due("store(0)", x.store(0), 6);
        due("total(3)", x.total(3), 0);
    }

    @Edge("a STORE between them for B (0 to 6)")
    static void promise20_greatestB() {
        PullCards x = new PullCards();
        due("store(6)", x.store(6), 0);
        due("total(3)", x.total(3), 6);
        due("store(6), as it was", x.store(6), 6);
    }

    @Edge("The STORE's B: what it was. OUTSIDE.")
    static void promise20_oneLessThanTheLeastB() {
        due("store(-1)", new PullCards().store(-1), OUTSIDE);
    }

    @Edge("The STORE's B: what it was. OUTSIDE.")
    static void promise20_oneMoreThanTheGreatestB() {
        due("store(7)", new PullCards().store(7), OUTSIDE);
    }

    @Edge("The STORE's B: what it was. OUTSIDE.")
    static void promise20_farthestBs() {
        due("store(LOW)", new PullCards().store(LOW), OUTSIDE);
        due("store(HIGH)", new PullCards().store(HIGH), OUTSIDE);
    }

    @Edge("What is refused changes nothing.")
    static void promise20_refusedChangesNothing() {
        refusedUnchanged(Edges::something, "store(7)", x -> x.store(7), OUTSIDE);
        refusedUnchanged(Edges::something, "store(-1)", x -> x.store(-1), OUTSIDE);
    }

    // ---- 21

    @Edge("How many are GIVEN in so many ticks (1 to 10), on the mean: a FRACTION.")
    static void promise21_leastTicks() {
        dueGiven(new PullCards(), 1, 1, 1);
        dueGiven(oneSixteenth(), 1, 1, 16);
    }

    @Edge("How many are GIVEN in so many ticks (1 to 10), on the mean: a FRACTION.")
    static void promise21_greatestTicks() {
        dueGiven(new PullCards(), 10, 10, 1);
        // 1 by 16 and 1 by 16 squared and so on: all together (2^40 - 1) / 15 by 2^40.
        dueGiven(oneSixteenth(), 10, 73300775185L, 1099511627776L);
    }

    @Edge("OUTSIDE.")
    static void promise21_oneLessThanTheLeastTicks() {
        due("given(0, true)", new PullCards().given(0, true), OUTSIDE);
    }

    @Edge("OUTSIDE.")
    static void promise21_oneMoreThanTheGreatestTicks() {
        due("given(11, true)", new PullCards().given(11, true), OUTSIDE);
    }

    @Edge("OUTSIDE.")
    static void promise21_farthestTicks() {
        due("given(LOW, true)", new PullCards().given(LOW, true), OUTSIDE);
        due("given(HIGH, true)", new PullCards().given(HIGH, true), OUTSIDE);
    }

    @Edge("as longs; refusals are told likewise")
    static void promise21_outsideIsToldTwice() {
        due("given(0, false)", new PullCards().given(0, false), -2L);
        due("given(11, false)", new PullCards().given(11, false), -2L);
    }

    @Edge("the one below (1 and more; of 0: 1)")
    static void promise21_nothingGiven() {
        dueGiven(neverUp(), 1, 0, 1);
        dueGiven(neverUp(), 10, 0, 1);
        dueGiven(machines(4, 0, 0, 0, 6), 10, 0, 1);
        dueGiven(machines(0, 0, 4, 0, 6), 10, 0, 1);
    }

    @Edge("FRACTIONS are told in least terms")
    static void promise21_leastTerms() {
        // The first is up at tick 1 by 2 quarters, at tick 2 by 1 quarter, and so on.
        PullCards x = machines(2, 0, 0, 0, 0);
        dueGiven(x, 1, 1, 2);
        dueGiven(x, 2, 3, 4);
        dueGiven(x, 10, 1023, 1024);
    }

    @Edge("Both are UP, the STORE is empty at first. In each tick: first each one changes by its CHANCES")
    static void promise21_theyChangeAheadOfTheFirstWork() {
        dueGiven(machines(4, 4, 0, 0, 0), 1, 0, 1);
        dueGiven(machines(4, 4, 0, 0, 0), 2, 1, 1);
        dueGiven(machines(4, 4, 4, 4, 6), 10, 5, 1);
    }

    @Edge("UP becomes DOWN by b quarters, DOWN becomes UP by r quarters (0 to 4 each;")
    static void promise21_leastAndGreatestChances() {
        dueGiven(machines(0, 4, 0, 4, 0), 10, 10, 1);
        dueGiven(machines(4, 4, 4, 4, 0), 9, 4, 1);
        dueGiven(machines(4, 0, 0, 0, 0), 10, 0, 1);
    }

    @Edge("the second alone: one is GIVEN out of the STORE, if it has one")
    static void promise21_storeIsEmptyAtFirst() {
        // The second alone at tick 1 finds nothing, whatever B is.
        PullCards x = machines(4, 4, 0, 0, 6);
        dueGiven(x, 1, 0, 1);
        dueGiven(x, 3, 1, 1);
    }

    @Edge("the first alone: the STORE has one more, if it has not B.")
    static void promise21_leastB() {
        // Without a store one is given at ticks 2, 4, .. as long as the first lasts.
        dueGiven(firstLasts(0), 2, 1, 4);
        dueGiven(firstLasts(0), 4, 5, 16);
        dueGiven(firstLasts(0), 10, 341, 1024);
    }

    @Edge("the first alone: the STORE has one more, if it has not B.")
    static void promise21_oneInTheStore() {
        // f 1: given at tick 2; f 2 and more: at ticks 2 and 4.
        dueGiven(firstLasts(1), 2, 1, 2);
        dueGiven(firstLasts(1), 4, 3, 4);
        // f 3 would leave two behind: by B 1 two are given in six ticks, by B 2 three; f 5: three.
        dueGiven(firstLasts(1), 6, 13, 16);
        dueGiven(firstLasts(2), 6, 7, 8);
    }

    @Edge("both: one is GIVEN, the STORE stays as it is")
    static void promise21_storeStaysWithBoth() {
        // f 1, by 1 by 4: one is given, at tick 2 out of the store. f 2 and more, by 1 by 4: one by
        // both at tick 2, and that which the store has since tick 1 is still there at tick 4.
        dueGiven(firstLasts(1), 4, 3, 4);
        dueGiven(firstLasts(6), 4, 3, 4);
        dueJust(firstLasts(6), 4, 2, 1, 4);
    }

    @Edge("a STORE between them for B (0 to 6)")
    static void promise21_greatestB() {
        // Each that the first makes is given, 5 at most: 1 by 2 and by 4, 8, 16, 32.
        dueGiven(firstLasts(6), 10, 31, 32);
        dueGiven(firstLasts(3), 10, 31, 32);
        dueGiven(firstLasts(2), 10, 61, 64);
    }

    @Edge("Both are UP, the STORE is empty at first.")
    static void promise21_eachTimeFromTheBeginning() {
        PullCards x = firstLasts(1);
        dueGiven(x, 4, 3, 4);
        x.just(10, 3, true);
        dueGiven(x, 4, 3, 4);
        x.store(0);
        dueGiven(x, 4, 5, 16);
    }

    @Edge("What is refused changes nothing.")
    static void promise21_refusedChangesNothing() {
        refusedUnchanged(Edges::something, "given(0, true)", x -> x.given(0, true), OUTSIDE);
        refusedUnchanged(Edges::something, "given(11, false)", x -> x.given(11, false), OUTSIDE);
    }

    // ---- 22

    @Edge("The chance that just so many (0 .. 10) are GIVEN in so many ticks: a FRACTION.")
    static void promise22_leastTicks() {
        dueJust(oneSixteenth(), 1, 0, 15, 16);
        dueJust(oneSixteenth(), 1, 1, 1, 16);
    }

    @Edge("The chance that just so many (0 .. 10) are GIVEN in so many ticks: a FRACTION.")
    static void promise22_greatestTicks() {
        dueJust(oneSixteenth(), 10, 0, 15, 16);
        // Nine ticks and not the tenth: 1 by 16 to the ninth, times 15 by 16.
        dueJust(oneSixteenth(), 10, 9, 15, 1099511627776L);
        dueJust(oneSixteenth(), 10, 10, 1, 1099511627776L);
    }

    @Edge("The chance that just so many (0 .. 10) are GIVEN in so many ticks: a FRACTION.")
    static void promise22_leastMany() {
        dueJust(neverUp(), 1, 0, 1, 1);
        dueJust(neverUp(), 10, 0, 1, 1);
        dueJust(new PullCards(), 10, 0, 0, 1);
    }

    @Edge("The chance that just so many (0 .. 10) are GIVEN in so many ticks: a FRACTION.")
    static void promise22_greatestMany() {
        dueJust(new PullCards(), 10, 10, 1, 1);
        dueJust(new PullCards(), 9, 10, 0, 1);
        dueJust(neverUp(), 10, 10, 0, 1);
    }

    @Edge("The chance that just so many (0 .. 10) are GIVEN in so many ticks: a FRACTION.")
    static void promise22_oneMoreThanThereAreTicks() {
        dueJust(new PullCards(), 1, 1, 1, 1);
        dueJust(new PullCards(), 1, 2, 0, 1);
        dueJust(machines(1, 1, 1, 1, 6), 4, 5, 0, 1);
    }

    @Edge("OUTSIDE.")
    static void promise22_oneLessThanTheLeast() {
        due("just(0, 0, true)", new PullCards().just(0, 0, true), OUTSIDE);
        due("just(1, -1, true)", new PullCards().just(1, -1, true), OUTSIDE);
    }

    @Edge("OUTSIDE.")
    static void promise22_oneMoreThanTheGreatest() {
        due("just(11, 0, true)", new PullCards().just(11, 0, true), OUTSIDE);
        due("just(1, 11, true)", new PullCards().just(1, 11, true), OUTSIDE);
        due("just(10, 11, true)", new PullCards().just(10, 11, true), OUTSIDE);
    }

    @Edge("OUTSIDE.")
    static void promise22_farthestNumbers() {
        due("just(LOW, 0, true)", new PullCards().just(LOW, 0, true), OUTSIDE);
        due("just(HIGH, 0, true)", new PullCards().just(HIGH, 0, true), OUTSIDE);
        due("just(1, LOW, true)", new PullCards().just(1, LOW, true), OUTSIDE);
        due("just(1, HIGH, true)", new PullCards().just(1, HIGH, true), OUTSIDE);
    }

    @Edge("as longs; refusals are told likewise")
    static void promise22_outsideIsToldTwice() {
        due("just(0, 0, false)", new PullCards().just(0, 0, false), -2L);
        due("just(1, 11, false)", new PullCards().just(1, 11, false), -2L);
    }

    @Edge("the one below (1 and more; of 0: 1)")
    static void promise22_noChance() {
        dueJust(neverUp(), 10, 1, 0, 1);
        dueJust(new PullCards(), 10, 9, 0, 1);
    }

    @Edge("the first alone: the STORE has one more, if it has not B.")
    static void promise22_leastB() {
        // f 2 and 3, by 1 by 8 and 1 by 16: given at tick 2 alone.
        dueJust(firstLasts(0), 10, 1, 3, 16);
        dueJust(firstLasts(0), 10, 5, 1, 1024);
    }

    @Edge("a STORE between them for B (0 to 6)")
    static void promise22_greatestB() {
        // All that the first makes is given: f 4 by 1 by 32, f 5 and more by 1 by 32.
        dueJust(firstLasts(6), 10, 0, 1, 2);
        dueJust(firstLasts(6), 10, 4, 1, 32);
        dueJust(firstLasts(6), 10, 5, 1, 32);
        dueJust(firstLasts(6), 10, 6, 0, 1);
    }

    @Edge("What is refused changes nothing.")
    static void promise22_refusedChangesNothing() {
        refusedUnchanged(Edges::something, "just(0, 0, true)", x -> x.just(0, 0, true), OUTSIDE);
        refusedUnchanged(Edges::something, "just(1, 11, true)", x -> x.just(1, 11, true), OUTSIDE);
    }

    // ---- 23

    @Edge("given() of so many ticks would be a told FRACTION at least")
    static void promise23_leastTicks() {
        due("least(1, 1, 16)", oneSixteenth().least(1, 1, 16), 0);
        due("least(1, 1, 15)", oneSixteenth().least(1, 1, 15), NONE);
    }

    @Edge("given() of so many ticks would be a told FRACTION at least")
    static void promise23_greatestTicks() {
        due("least(10, 10, 1)", new PullCards().least(10, 10, 1), 0);
        due("least(10, 31, 32)", firstLasts(0).least(10, 31, 32), 3);
    }

    @Edge("a told FRACTION at least (above by below, 1 to 1000 each)")
    static void promise23_leastAbove() {
        due("least(1, 1, 1)", new PullCards().least(1, 1, 1), 0);
        due("least(10, 1, 1000)", neverUp().least(10, 1, 1000), NONE);
    }

    @Edge("a told FRACTION at least (above by below, 1 to 1000 each)")
    static void promise23_greatestAbove() {
        due("least(10, 1000, 1)", new PullCards().least(10, 1000, 1), NONE);
        due("least(10, 1000, 100), just 10", new PullCards().least(10, 1000, 100), 0);
        due("least(10, 1000, 99), more than 10", new PullCards().least(10, 1000, 99), NONE);
    }

    @Edge("a told FRACTION at least (above by below, 1 to 1000 each)")
    static void promise23_leastBelow() {
        due("least(9, 9, 1)", new PullCards().least(9, 9, 1), 0);
        due("least(9, 10, 1)", new PullCards().least(9, 10, 1), NONE);
    }

    @Edge("a told FRACTION at least (above by below, 1 to 1000 each)")
    static void promise23_greatestBelow() {
        due("least(1, 1000, 1000)", new PullCards().least(1, 1000, 1000), 0);
        // 1 by 16 is 62.5 by 1000.
        due("least(1, 62, 1000)", oneSixteenth().least(1, 62, 1000), 0);
        due("least(1, 63, 1000)", oneSixteenth().least(1, 63, 1000), NONE);
    }

    @Edge("OUTSIDE.")
    static void promise23_oneLessThanTheLeast() {
        due("least(0, 1, 1)", new PullCards().least(0, 1, 1), OUTSIDE);
        due("least(1, 0, 1)", new PullCards().least(1, 0, 1), OUTSIDE);
        due("least(1, 1, 0)", new PullCards().least(1, 1, 0), OUTSIDE);
    }

    @Edge("OUTSIDE.")
    static void promise23_oneMoreThanTheGreatest() {
        due("least(11, 1, 1)", new PullCards().least(11, 1, 1), OUTSIDE);
        due("least(1, 1001, 1)", new PullCards().least(1, 1001, 1), OUTSIDE);
        due("least(1, 1, 1001)", new PullCards().least(1, 1, 1001), OUTSIDE);
    }

    @Edge("OUTSIDE.")
    static void promise23_farthestNumbers() {
        due("least(LOW, 1, 1)", new PullCards().least(LOW, 1, 1), OUTSIDE);
        due("least(HIGH, 1, 1)", new PullCards().least(HIGH, 1, 1), OUTSIDE);
        due("least(1, LOW, 1)", new PullCards().least(1, LOW, 1), OUTSIDE);
        due("least(1, HIGH, 1)", new PullCards().least(1, HIGH, 1), OUTSIDE);
        due("least(1, 1, LOW)", new PullCards().least(1, 1, LOW), OUTSIDE);
        due("least(1, 1, HIGH)", new PullCards().least(1, 1, HIGH), OUTSIDE);
    }

    @Edge("The least B (0 to 6) by which given() of so many ticks would be a told FRACTION at least")
    static void promise23_leastB() {
        // B 0 gives 5 by 16, B 1 gives 3 by 4.
        due("least(4, 5, 16)", firstLasts(6).least(4, 5, 16), 0);
        due("least(4, 313, 1000)", firstLasts(6).least(4, 313, 1000), 1);
    }

    @Edge("The least B (0 to 6) by which given() of so many ticks would be a told FRACTION at least")
    static void promise23_greatestB() {
        // What is filled must be emptied within ten ticks, so B 6 never gives more than B 5. By a
        // second program, in sums of fractions: B 4 gives 2.2027.., B 5 2.20315..; 141 by 64 is
        // 2.203125.
        PullCards x = machines(1, 0, 1, 1, 0);
        due("least(10, 141, 64)", x.least(10, 141, 64), 5);
        x.store(4);
        dueGiven(x, 10, 2421983059149L, 1099511627776L);
        x.store(5);
        dueGiven(x, 10, 2422391205837L, 1099511627776L);
        x.store(6);
        dueGiven(x, 10, 2422391205837L, 1099511627776L);
    }

    @Edge("NONE: none does.")
    static void promise23_none() {
        due("least(4, 3, 4)", firstLasts(0).least(4, 3, 4), 1);
        due("least(4, 751, 1000)", firstLasts(0).least(4, 751, 1000), NONE);
        due("least(10, 1, 1000)", neverUp().least(10, 1, 1000), NONE);
    }

    @Edge("The least B (0 to 6) by which given() of so many ticks would be")
    static void promise23_whateverBIs() {
        for (int b = 0; b <= 6; b++) {
            PullCards x = firstLasts(b);
            due("least(10, 31, 32), B " + b, x.least(10, 31, 32), 3);
            due("total(3)", x.total(3), b);
        }
    }

    @Edge("What is refused changes nothing.")
    static void promise23_refusedChangesNothing() {
        refusedUnchanged(Edges::something, "least(0, 1, 1)", x -> x.least(0, 1, 1), OUTSIDE);
        refusedUnchanged(Edges::something, "least(1, 1001, 1)", x -> x.least(1, 1001, 1), OUTSIDE);
        refusedUnchanged(Edges::something, "least(1, 1, 0)", x -> x.least(1, 1, 0), OUTSIDE);
    }
}
