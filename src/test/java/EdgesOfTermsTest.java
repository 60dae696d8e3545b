/** Each sentence of the document's terms that names an edge, by itself. */
public final class EdgesOfTermsTest {
    private static final int FULL = Belts.FULL, NONE = Belts.NONE, BAD = Belts.BAD;
    private static final String[] EVERY_KIND = {"p", "s", "h", "k", "a"};

    private EdgesOfTermsTest() {
    }

    public static void main(String[] args) {
        Check.each(EdgesOfTermsTest.class);
        Check.end();
    }

    private static void due(String what, long got, long want) {
        Check.due(what, got, want);
    }

    // ==== 1

    static void termsHighIs2To6() {
        for (int high = 2; high <= 6; high++) {
            DayBelt x = Belts.high(high, "p10" + high);
            due("HIGH", x.count(2), high);
            due("a person on the highest FLOOR", x.person(0, 1, high - 1, 0), 1);
            due("a person above it", x.person(0, 1, high, 0), BAD);
            due("the last CAR", x.car(2 * high - 1, 1), 2 * high - 1);
            due("no CAR behind it", x.car(2 * high, 1), BAD);
        }
        DayBelt x = new DayBelt();
        due("HIGH 1", Belts.take(x, "1;01;p100"), -20);
        due("HIGH 7", Belts.take(x, "7;01234560123456;p100"), -20);
        due("HIGH at first", x.count(2), 3);
    }

    static void termsFirstHighPlacesGoUpOthersDown() {
        for (int high = 2; high <= 6; high++) {
            DayBelt x = Belts.high(high, "p100");
            for (int car = 0; car < 2 * high; car++) {
                boolean up = car < high;
                due(high + ": PLACE of CAR " + car + " in STEP 0", x.car(car, 1), car);
                due(high + ": FLOOR of PLACE " + car, x.car(car, 2), up ? car : 2 * high - 1 - car);
                due(high + ": side of PLACE " + car, x.car(car, 3), up ? 0 : 1);
            }
        }
    }

    static void termsFromTheLastPlaceToPlace0() {
        for (int high = 2; high <= 6; high++) {
            DayBelt x = Belts.high(high, "p100");
            int last = 2 * high - 1;
            x.steps(1);
            due(high + ": the last CAR behind one STEP", x.car(last, 1), 0);
            due(high + ": CAR 0 behind one STEP", x.car(0, 1), 1);
            x.steps(last - 1);
            due(high + ": CAR 0 in the last PLACE", x.car(0, 1), last);
            due(high + ": its FLOOR", x.car(0, 2), 0);
            due(high + ": its side", x.car(0, 3), 1);
            x.steps(1);
            due(high + ": CAR 0 in PLACE 0 again", x.car(0, 1), 0);
            due(high + ": its side", x.car(0, 3), 0);
        }
    }

    /** More cars than days: they come by blocks alone, with days of their own, so only 0 .. 5 can be seen at first. */
    static void termsDaysOfCarsAtFirst() {
        DayBelt x = new DayBelt();
        for (int car = 0; car < 6; car++) {
            due("DAY of CAR " + car, x.car(car, 0), car);
        }
    }

    static void termsLimit20AtFirst() {
        DayBelt x = new DayBelt();
        x.person(Belts.HEAVY, 9, 0, 0);
        x.person(0, 2, 0, 0);
        x.person(0, 1, 0, 0);
        due("18", x.in(0, 0), 0);
        due("20", x.in(1, 0), 0);
        due("21", x.in(2, 0), FULL);
    }

    static void termsNoon12AtFirst() {
        DayBelt x = new DayBelt();
        x.person(0, 1, 0, 0);
        x.steps(11);
        due("LUNCHES behind 11 STEPS", x.of(0, 5), 0);
        x.steps(1);
        due("LUNCHES behind 12 STEPS", x.of(0, 5), 1);
        x.steps(11);
        due("LUNCHES behind 23 STEPS", x.of(0, 5), 1);
        x.steps(1);
        due("LUNCHES behind 24 STEPS", x.of(0, 5), 2);
    }

    /** Each kind rides on from each floor on each side of each block for two rounds. */
    static void termsWhoIsShyIsOutWhereTheBeltTurns() {
        for (int high = 2; high <= 6; high++) {
            for (int kind = 0; kind < 5; kind++) {
                for (int place = 0; place < 2 * high; place++) {
                    ride(high, kind, place);
                }
            }
        }
    }

    private static void ride(int high, int kind, int from) {
        int floor = from < high ? from : 2 * high - 1 - from;
        DayBelt x = Belts.high(high, EVERY_KIND[kind] + "1" + floor + "6");
        String who = high + ": kind " + kind + " from PLACE " + from;
        due(who, x.in(0, from < high ? 0 : 1), from);
        boolean out = false;
        for (int n = 1; n <= 4 * high && !out; n++) {
            x.steps(1);
            int place = (from + n) % (2 * high);
            boolean outAbove = place == high && kind == Belts.SHY;
            boolean outBelow = place == 0 && (kind == Belts.SHY || kind == Belts.AUNT);
            out = outAbove || outBelow;
            due(who + " behind " + n + ": CAR", x.of(0, 3), out ? NONE : from);
            due(who + " behind " + n + ": FLOOR", x.of(0, 2), place < high ? place : 2 * high - 1 - place);
            due(who + " behind " + n + ": DAY", x.of(0, 4), from % 7);
        }
    }

    static void termsHeavyAndBelowWeighTwice() {
        int[] times = {1, 1, 2, 2, 1};
        for (int kind = 0; kind < 5; kind++) {
            for (int weight = 1; weight <= 9; weight += 8) {
                DayBelt x = new DayBelt();
                x.person(kind, weight, 0, 0);
                due("kind " + kind + " of " + weight, x.of(0, 1), weight * times[kind]);
                x.in(0, 0);
                due("LOAD by kind " + kind + " of " + weight, x.car(0, 4), weight * times[kind]);
            }
        }
    }

    static void termsOnlyAPorterGetsInAboveLimit() {
        for (int kind = 0; kind < 5; kind++) {
            DayBelt x = Belts.block("3;012345;p600," + EVERY_KIND[kind] + "300");
            int weighs = x.of(1, 1);
            x.in(0, 0);
            x.rule(0, 6 + weighs);
            due("kind " + kind + " to just LIMIT", x.in(1, 0), 0);
            x.out(1);
            x.rule(0, 5 + weighs);
            due("kind " + kind + " to one above LIMIT", x.in(1, 0), kind == Belts.PORTER ? 0 : FULL);
        }
    }

    static void termsInACarItsDayIsTheCars() {
        DayBelt x = Belts.block("3;654321;p100");
        due("its own DAY", x.of(0, 4), 0);
        x.in(0, 0);
        due("the CAR's DAY", x.of(0, 4), 6);
        x.day(0, 3);
        due("the CAR's new DAY", x.of(0, 4), 3);
        x.out(0);
        due("OUT: the CAR's DAY", x.of(0, 4), 3);
        x.day(0, 5);
        due("OUT: not the CAR's later DAY", x.of(0, 4), 3);
    }

    static void termsLunchOnFloor0Alone() {
        DayBelt x = Belts.block("2;0123;p100,p110,p100,p110");
        x.rule(1, 2);
        x.in(2, 1);
        x.in(3, 1);
        x.steps(1);
        due("CAR 2 goes past FLOOR 0", x.of(3, 2), 0);
        x.steps(1);
        due("who is on FLOOR 0", x.of(0, 5), 1);
        due("who is on FLOOR 1", x.of(1, 5), 0);
        due("who rides past FLOOR 1", x.of(2, 5), 0);
        due("who rides past FLOOR 0", x.of(3, 2), 0);
        due("its LUNCHES", x.of(3, 5), 0);
    }

    static void termsWhoIsTurnedOutAtNoonHasLunch() {
        for (int kind = 0; kind < 5; kind++) {
            DayBelt x = Belts.block("2;0123;" + EVERY_KIND[kind] + "100");
            x.rule(1, 2);
            x.steps(1);
            x.in(0, 1);
            x.steps(1);
            due("kind " + kind, x.of(0, 5), kind == Belts.SHY || kind == Belts.AUNT ? 1 : 0);
        }
        DayBelt x = Belts.block("2;0123;s110");
        x.rule(1, 2);
        x.steps(1);
        x.in(0, 0);
        x.steps(1);
        due("turned out above", x.of(0, 3), NONE);
        due("no lunch above", x.of(0, 5), 0);
    }

    // ==== 3

    static void termsEightMayBeUndoneOlderOnesAreLost() {
        for (int done = 7; done <= 17; done++) {
            DayBelt x = Belts.block("2;0123;p100");
            for (int k = 0; k < done; k++) {
                x.steps(1);
            }
            int known = Math.min(done, 8);
            due("known of " + done, x.count(5), known);
            for (int k = known - 1; k >= 0; k--) {
                due("undo of " + done, x.undo(), k);
            }
            due("one more of " + done, x.undo(), NONE);
            due("STEPS left of " + done, x.count(1), done - known);
        }
    }

    static void termsInOutAndStepAreEachUndone() {
        DayBelt x = Belts.block("2;3456;p100,p100");
        x.in(0, 0);
        x.steps(1);
        x.out(0);
        due("three are known", x.count(5), 3);
        due("undo of OUT", x.undo(), 2);
        due("its CAR", x.of(0, 3), 0);
        due("its FLOOR", x.of(0, 2), 1);
        due("undo of the STEP", x.undo(), 1);
        due("STEPS", x.count(1), 0);
        due("its FLOOR", x.of(0, 2), 0);
        due("undo of IN", x.undo(), 0);
        due("its CAR", x.of(0, 3), NONE);
        due("its own DAY", x.of(0, 4), 0);
    }

    static void termsManyStepsOfOneCallAreManyToBeUndone() {
        DayBelt x = Belts.block("2;0123;p100");
        x.steps(3);
        due("steps(3)", x.count(5), 3);
        x.drift(2);
        due("drift(2)", x.count(5), 5);
    }

    static void termsASteadyBeltIsUndoneToo() {
        DayBelt x = Belts.block("2;0123;p100,p100,p100,p100,p100,p100");
        for (int p = 0; p < 6; p++) {
            x.in(p, 0);
        }
        int seed = Draws.leavingOver(5);
        x.seed(seed);
        due("it stands still", x.drift(1), 1);
        due("known", x.count(5), 7);
        due("STEPS", x.count(1), 0);
        due("undo", x.undo(), 6);
        due("who is in CARS", x.count(6), 63);
        due("THE DRAW", x.seed(0), seed);
    }

    static void termsUndoneWhateverWasToldSince() {
        DayBelt x = Belts.block("2;3456;p100,p110");
        x.rule(1, 2);
        x.seed(5);
        x.steps(1);
        x.steps(1);
        x.seed(6);
        x.rule(0, 9);
        x.rule(1, 3);
        x.day(0, 1);
        due("undo", x.undo(), 1);
        due("LUNCHES as ahead of it", x.of(0, 5), 0);
        due("STEPS as ahead of it", x.count(1), 1);
        due("LIMIT as told", x.count(3), 9);
        due("NOON as told", x.count(4), 3);
        due("DAY of a CAR as told", x.car(0, 0), 1);
        due("THE DRAW as ahead of it", x.seed(7), 5);
        due("undo", x.undo(), 0);
        due("THE DRAW as ahead of it", x.seed(8), 5);
    }

    static void termsABlockLeavesNothingToBeUndone() {
        DayBelt x = Belts.rich();
        due("known ahead", x.count(5), 8);
        due("a block", Belts.take(x, "2;0123;p100"), 1);
        due("known", x.count(5), 0);
        due("undo", x.undo(), NONE);
    }

    static void termsANewPersonLeavesNothingToBeUndone() {
        DayBelt x = Belts.rich();
        due("a person", x.person(0, 1, 0, 0), 5);
        due("known", x.count(5), 0);
        due("undo", x.undo(), NONE);
    }

    static void termsWhatIsRefusedLeavesAllToBeUndone() {
        DayBelt x = Belts.rich();
        x.person(5, 1, 0, 0);
        Belts.take(x, "2;0123;p10");
        x.in(9, 0);
        x.out(2);
        x.steps(61);
        x.drift(0);
        due("known", x.count(5), 8);
        for (int k = 7; k >= 0; k--) {
            due("undo", x.undo(), k);
        }
    }

    static void termsTheDrawIs1AtFirstAndHas31Bits() {
        due("at first", new DayBelt().seed(0), 1);
        int[] draws = {0, 1, 2, 3, 77, 65535, 65536, 0x3fffffff, 0x40000000, 0x7ffffffe, Integer.MAX_VALUE};
        for (int draw : draws) {
            DayBelt x = new DayBelt();
            x.seed(draw);
            x.drift(1);
            due("behind " + draw, x.seed(0), Draws.behind(draw));
        }
        Check.that("of some the 32nd bit is cut off", (1 * 1103515245 + 12345 & 0x80000000) == 0
            && (2 * 1103515245 + 12345 & 0x80000000) != 0);
    }

    /** Every count of riders with every rest by 12: it stands still just if the rest is less. */
    static void termsTheBeltStandsStillIfTheRestIsLess() {
        for (int riders = 0; riders <= 6; riders++) {
            for (int rest = 0; rest < 12; rest++) {
                DayBelt x = Belts.block("2;0123;p100,p100,p100,p100,p100,p100");
                for (int p = 0; p < riders; p++) {
                    x.in(p, 0);
                }
                x.seed(Draws.leavingOver(rest));
                due(riders + " riders, rest " + rest, x.drift(1), rest < riders ? 1 : 0);
                due("STEPS then", x.count(1), rest < riders ? 0 : 1);
            }
        }
    }

    static void termsWhereTheBeltStandsNothingElseIsDone() {
        DayBelt x = Belts.block("2;0123;p100,s100,p110");
        x.rule(1, 2);
        x.steps(2);
        x.in(1, 1);
        x.in(2, 0);
        int seed = Draws.leavingOver(0);
        x.seed(seed);
        due("it stands still", x.drift(1), 1);
        due("no LUNCH more, though STEPS are a multiple of NOON", x.of(0, 5), 1);
        due("who is SHY stays IN", x.of(1, 3), 1);
        due("CAR 0 stays", x.car(0, 1), 2);
        due("STEPS stay", x.count(1), 2);
        due("THE DRAW goes on", x.seed(0), Draws.behind(seed));
    }

    static void termsSetsAreBits() {
        DayBelt x = Belts.high(6, "p100,p100,p100,p100,p100,p100");
        x.in(5, 0);
        due("the last one alone", x.count(6), 32);
        due("the last one alone", x.car(0, 5), 32);
        for (int p = 0; p < 5; p++) {
            x.in(p, 0);
        }
        due("all", x.count(6), 63);
        due("all", x.car(0, 5), 63);
        due("all", x.steps(1), 63);
        x.day(6, 0);
        due("all FLOORS", x.never(0, 6), 63);
    }
}
