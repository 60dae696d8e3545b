/** Promises 10 to 15: each sentence that names an edge, by itself. */
public final class EdgesOfDoingTest {
    private static final int BAD = Belts.BAD, NOT = Belts.NOT, FULL = Belts.FULL, NONE = Belts.NONE;
    private static final int MIN = Integer.MIN_VALUE, MAX = Integer.MAX_VALUE;

    private EdgesOfDoingTest() {
    }

    public static void main(String[] args) {
        Check.each(EdgesOfDoingTest.class);
        Check.end();
    }

    private static void due(String what, long got, long want) {
        Check.due(what, got, want);
    }

    /** Five people on floors, who may all get in. */
    private static DayBelt waiting() {
        DayBelt x = Belts.high(3, "p100,s110,h120,k200,a210");
        x.steps(3);
        x.image();
        x.steps(1);
        Belts.row(x, 0, 2, 1, 2, 3);
        Belts.type(x, "2;0123;p1");
        return x;
    }

    // ---- 10 in

    static void promise10_in_PersonIsOneThatCame() {
        Twins.range("person", EdgesOfDoingTest::waiting, 0, 2, 4, 3, (x, v) -> x.in(v, 0));
        Twins.same("person 0 of none", DayBelt::new, BAD, x -> x.in(0, 0));
    }

    static void promise10_in_SideIs0Or1() {
        Twins.range("side", EdgesOfDoingTest::waiting, 0, 2, 1, 1, (x, v) -> x.in(0, v));
    }

    static void promise10_in_TheCarThatIsThere() {
        for (int high = 2; high <= 6; high++) {
            for (int floor = 0; floor < high; floor++) {
                for (int side = 0; side < 2; side++) {
                    for (int steps = 0; steps < 2 * high + 1; steps++) {
                        DayBelt x = Belts.high(high, "p1" + floor + "0");
                        if (steps > 0) {
                            x.steps(steps);
                        }
                        int place = side == 0 ? floor : 2 * high - 1 - floor;
                        int car = Math.floorMod(place - steps, 2 * high);
                        due(high + ": floor " + floor + ", side " + side + " behind " + steps, x.in(0, side), car);
                        due("it is in it", x.of(0, 3), car);
                        due("it goes past that FLOOR", x.of(0, 2), floor);
                    }
                }
            }
        }
    }

    static void promise10_in_NotInACar() {
        for (int side = 0; side < 2; side++) {
            int s = side;
            Twins.same("on side " + s, Belts::crowded, NOT, x -> x.in(0, s));
        }
    }

    static void promise10_in_JustLimitIsTakenOneMoreIsFull() {
        Twins.same("27 of 26", () -> loaded(26), FULL, x -> x.in(1, 0));
        due("27 of 27", loaded(27).in(1, 0), 0);
        due("the other side", loaded(26).in(1, 1), 5);
    }

    /** A heavy one of 18 is in car 0; one of 9 is on floor 0. */
    private static DayBelt loaded(int limit) {
        DayBelt x = Belts.block("3;012345;h900,p900");
        x.rule(0, 60);
        x.in(0, 0);
        x.rule(0, limit);
        x.image();
        return x;
    }

    static void promise10_in_OneAloneMayWeighLimit() {
        for (int limit = 1; limit <= 9; limit++) {
            int l = limit;
            DayBelt x = Belts.block("3;012345;p" + l + "00");
            x.rule(0, l);
            due("LIMIT " + l, x.in(0, 0), 0);
            if (l > 1) {
                Twins.same("LIMIT one less than " + l, () -> underLimit(l), FULL, y -> y.in(0, 0));
            }
        }
    }

    private static DayBelt underLimit(int weight) {
        DayBelt x = Belts.block("3;012345;p" + weight + "00");
        x.rule(0, weight - 1);
        return x;
    }

    static void promise10_in_APorterWhateverACarBears() {
        DayBelt x = Belts.block("3;012345;k900,k900,k900,k900,k900,k900");
        x.rule(0, 1);
        for (int p = 0; p < 6; p++) {
            due("porter " + p, x.in(p, 0), 0);
        }
        due("LOAD", x.car(0, 4), 108);
    }

    static void promise10_in_BadAheadOfNotAndFull() {
        Twins.same("a side of one in a CAR", Belts::crowded, BAD, x -> x.in(0, 2));
        Twins.same("a side of one who is too heavy", () -> loaded(26), BAD, x -> x.in(1, -1));
    }

    static void promise10_in_NotAheadOfFull() {
        Twins.same("in a CAR above LIMIT", () -> loaded(1), NOT, x -> x.in(0, 0));
    }

    // ---- 11 out

    static void promise11_out_PersonIsOneThatCame() {
        Twins.range("person", Belts::crowded, 0, 0, 5, 0, (x, v) -> x.out(v));
        Twins.same("person 0 of none", DayBelt::new, BAD, x -> x.out(0));
        Twins.same("person -1 of none", DayBelt::new, BAD, x -> x.out(-1));
    }

    static void promise11_out_NotInNoCar() {
        for (int person = 0; person < 5; person++) {
            int p = person;
            Twins.same("person " + p, EdgesOfDoingTest::waiting, NOT, x -> x.out(p));
        }
        DayBelt x = Belts.high(2, "p100");
        x.in(0, 0);
        due("OUT", x.out(0), 0);
        due("again", x.out(0), NOT);
    }

    static void promise11_out_NotWhenTurnedOut() {
        DayBelt x = Belts.high(2, "s110");
        x.in(0, 0);
        x.steps(1);
        due("turned OUT already", x.out(0), NOT);
    }

    static void promise11_out_TheFloorPastWhichTheCarGoes() {
        for (int high = 2; high <= 6; high++) {
            for (int n = 1; n <= 2 * high; n++) {
                DayBelt x = Belts.high(high, "p100");
                x.in(0, 0);
                x.steps(n);
                int place = n % (2 * high);
                due(high + ": behind " + n, x.out(0), place < high ? place : 2 * high - 1 - place);
            }
        }
    }

    // ---- 12 steps

    static void promise12_steps_From1To60() {
        Twins.range("n", Belts::crowded, 1, 63, 60, 63 - 2 - 16, (x, v) -> x.steps(v));
        DayBelt x = new DayBelt();
        x.steps(1);
        due("STEPS", x.count(1), 1);
        x.steps(60);
        due("STEPS", x.count(1), 61);
    }

    static void promise12_steps_To9999AndNotAbove() {
        for (int n = 1; n <= 60; n++) {
            DayBelt x = Belts.worn(Belts.MOST_STEPS - n);
            if (n < 60) {
                due("to 10000", x.steps(n + 1), FULL);
            }
            due("STEPS", x.count(1), Belts.MOST_STEPS - n);
            due("to 9999", x.steps(n), 5);
            due("STEPS", x.count(1), Belts.MOST_STEPS);
            due("one more", x.steps(1), FULL);
        }
    }

    static void promise12_steps_FullChangesNothing() {
        Twins.same("60 of 59", () -> Belts.worn(Belts.MOST_STEPS - 59), FULL, x -> x.steps(60));
        Twins.same("2 of 1", () -> Belts.worn(Belts.MOST_STEPS - 1), FULL, x -> x.steps(2));
        Twins.same("1 of 0", () -> Belts.worn(Belts.MOST_STEPS), FULL, x -> x.steps(1));
    }

    static void promise12_steps_BadAheadOfFull() {
        Twins.same("61", () -> Belts.worn(Belts.MOST_STEPS), BAD, x -> x.steps(61));
        Twins.same("0", () -> Belts.worn(Belts.MOST_STEPS), BAD, x -> x.steps(0));
        Twins.same("the greatest", () -> Belts.worn(Belts.MOST_STEPS), BAD, x -> x.steps(MAX));
    }

    static void promise12_steps_WhoIsInCarsThen() {
        DayBelt x = Belts.high(2, "p110,s110,a110,s100,a100");
        for (int p = 0; p < 3; p++) {
            x.in(p, 0);
        }
        for (int p = 3; p < 5; p++) {
            x.in(p, 0);
        }
        due("the shy one above is OUT", x.steps(1), 1 + 4 + 8 + 16);
        due("the other shy one above is OUT", x.steps(1), 1 + 4 + 16);
        due("the aunt is OUT below", x.steps(1), 1 + 16);
        due("the other aunt is OUT below", x.steps(1), 1);
        due("nobody is", new DayBelt().steps(60), 0);
    }

    static void promise12_steps_UndoneAt9999() {
        DayBelt x = Belts.worn(Belts.MOST_STEPS);
        due("undo", x.undo(), 7);
        due("STEPS", x.count(1), Belts.MOST_STEPS - 1);
        due("one STEP", x.steps(1), 5);
        due("one more", x.steps(1), FULL);
    }

    static void promise12_steps_ABlockBeginsAnew() {
        DayBelt x = Belts.worn(Belts.MOST_STEPS);
        Belts.take(x, "2;0123;p100");
        due("STEPS", x.steps(60), 0);
        due("STEPS", x.count(1), 60);
    }

    // ---- 13 drift

    static void promise13_drift_From1To60() {
        Twins.range("n", EdgesOfDoingTest::waiting, 1, 0, 60, 0, (x, v) -> x.drift(v));
        DayBelt x = new DayBelt();
        x.drift(1);
        due("STEPS", x.count(1), 1);
        x.drift(60);
        due("STEPS", x.count(1), 61);
    }

    static void promise13_drift_To9999AndNotAbove() {
        for (int n = 1; n <= 60; n += n == 1 ? 58 : 1) {
            DayBelt x = Belts.worn(Belts.MOST_STEPS - n);
            x.out(0);
            x.out(2);
            if (n < 60) {
                due("to 10000", x.drift(n + 1), FULL);
            }
            due("to 9999", x.drift(n), 0);
            due("STEPS", x.count(1), Belts.MOST_STEPS);
            due("one more", x.drift(1), FULL);
        }
    }

    /** Two ride: by a rest of 0 or 1 the belt would stand, and STEPS would stay; it counts as a step for all that. */
    static void promise13_drift_FullByAllNEvenIfItWouldStand() {
        int seed = Draws.leavingOver(0);
        Twins.same("1 of 0", () -> wornBySeed(Belts.MOST_STEPS, seed), FULL, x -> x.drift(1));
        Twins.same("60 of 59", () -> wornBySeed(Belts.MOST_STEPS - 59, seed), FULL, x -> x.drift(60));
        DayBelt x = wornBySeed(Belts.MOST_STEPS - 1, seed);
        due("1 of 1", x.drift(1), 1);
        due("STEPS", x.count(1), Belts.MOST_STEPS - 1);
    }

    private static DayBelt wornBySeed(int steps, int seed) {
        DayBelt x = Belts.worn(steps);
        x.seed(seed);
        return x;
    }

    static void promise13_drift_BadAheadOfFull() {
        Twins.same("61", () -> Belts.worn(Belts.MOST_STEPS), BAD, x -> x.drift(61));
        Twins.same("0", () -> Belts.worn(Belts.MOST_STEPS), BAD, x -> x.drift(0));
    }

    static void promise13_drift_HowOftenItStood() {
        for (int riders = 0; riders <= 6; riders++) {
            DayBelt x = Belts.high(2, "p100,p100,p100,p100,p100,p100");
            for (int p = 0; p < riders; p++) {
                x.in(p, 0);
            }
            int draw = 1;
            int stood = 0;
            for (int k = 0; k < 60; k++) {
                draw = Draws.behind(draw);
                stood += draw / 65536 % 12 < riders ? 1 : 0;
            }
            due("of 60 with " + riders, x.drift(60), stood);
            due("STEPS", x.count(1), 60 - stood);
            due("THE DRAW", x.seed(0), draw);
        }
    }

    /** Who is turned out in a drift's step counts no more ahead of the next one. */
    static void promise13_drift_HowManyAreInCarsAheadOfEachStep() {
        DayBelt x = Belts.high(2, "s110");
        x.in(0, 0);
        int seed = 0;
        while (Draws.behind(seed) / 65536 % 12 == 0 || Draws.behind(Draws.behind(seed)) / 65536 % 12 != 0) {
            seed++;
        }
        x.seed(seed);
        due("the second would stand if it were IN still", x.drift(2), 0);
        due("STEPS", x.count(1), 2);
    }

    static void promise13_drift_EachDrawIsUndone() {
        DayBelt x = Belts.high(2, "p100,p100,p100");
        for (int p = 0; p < 3; p++) {
            x.in(p, 0);
        }
        int[] draws = new int[21];
        draws[0] = 9;
        x.seed(9);
        for (int k = 1; k <= 20; k++) {
            draws[k] = Draws.behind(draws[k - 1]);
        }
        x.drift(20);
        for (int k = 19; k >= 12; k--) {
            due("undo", x.undo(), k - 12);
            int draw = x.seed(3);
            due("THE DRAW", draw, draws[k]);
        }
        due("no more", x.undo(), NONE);
    }

    // ---- 14 undo

    static void promise14_undo_NoneIsKnown() {
        Twins.same("at first", DayBelt::new, NONE, DayBelt::undo);
        Twins.same("behind a block", () -> Belts.high(2, "p100"), NONE, DayBelt::undo);
        Twins.same("behind eight undone", EdgesOfDoingTest::allUndone, NONE, DayBelt::undo);
        Twins.same("behind a person", EdgesOfDoingTest::withANewOne, NONE, DayBelt::undo);
    }

    private static DayBelt allUndone() {
        DayBelt x = Belts.rich();
        for (int k = 0; k < 8; k++) {
            x.undo();
        }
        return x;
    }

    private static DayBelt withANewOne() {
        DayBelt x = Belts.rich();
        x.person(0, 1, 0, 0);
        return x;
    }

    static void promise14_undo_HowManyMoreMayBe() {
        DayBelt x = Belts.rich();
        for (int k = 7; k >= 0; k--) {
            due("undo", x.undo(), k);
            due("count(5)", x.count(5), k);
        }
        due("undo", x.undo(), NONE);
        due("count(5)", x.count(5), 0);
    }

    static void promise14_undo_WhatIsDoneBehindAnUndo() {
        DayBelt x = Belts.high(2, "p100");
        x.steps(8);
        x.undo();
        x.undo();
        x.steps(1);
        due("known", x.count(5), 7);
        x.steps(2);
        due("known", x.count(5), 8);
        for (int k = 7; k >= 0; k--) {
            due("undo", x.undo(), k);
            due("STEPS", x.count(1), k + 1);
        }
        due("the oldest is lost", x.undo(), NONE);
    }

    static void promise14_undo_ManyTimesEight() {
        DayBelt x = Belts.high(2, "p100");
        for (int times = 0; times < 5; times++) {
            x.steps(5 + times);
            int known = x.count(5);
            for (int k = known - 1; k >= 0; k--) {
                due("undo", x.undo(), k);
            }
            due("no more", x.undo(), NONE);
            due("STEPS", x.count(1), Math.max(0, 5 + times - 8));
        }
    }

    static void promise14_undo_TellingIsNotUndone() {
        DayBelt x = Belts.high(2, "p100");
        x.day(0, 6);
        x.rule(0, 5);
        x.rule(1, 5);
        x.seed(5);
        x.sheet(0, 0, 1);
        x.item(0, 0, 0, 1);
        x.image();
        x.type('2');
        due("nothing is known", x.count(5), 0);
        due("undo", x.undo(), NONE);
    }

    static void promise14_undo_OneTurnedOutIsInAgain() {
        DayBelt x = Belts.block("2;3456;s110,a100");
        x.in(0, 0);
        x.in(1, 1);
        x.rule(1, 2);
        x.steps(1);
        due("both are OUT", x.count(6), 0);
        due("DAY", x.of(0, 4), 4);
        due("undo", x.undo(), 2);
        due("both are IN", x.count(6), 3);
        due("undo", x.undo(), 1);
        due("undo", x.undo(), 0);
        due("DAY of its own", x.of(0, 4), 0);
        due("DAY of its own", x.of(1, 4), 0);
    }

    static void promise14_undo_LunchesAreUndone() {
        DayBelt x = Belts.high(2, "p100,p100");
        x.rule(1, 2);
        x.steps(4);
        due("LUNCHES", x.count(7), 4);
        x.undo();
        due("LUNCHES", x.count(7), 2);
        x.undo();
        due("LUNCHES", x.count(7), 2);
        x.undo();
        due("LUNCHES", x.count(7), 0);
    }

    // ---- 15 seed

    static void promise15_seed_From0To31Bits() {
        due("0", Belts.rich().seed(0), drawOf(Belts.rich()));
        due("the greatest", Belts.rich().seed(MAX), drawOf(Belts.rich()));
        DayBelt x = new DayBelt();
        due("0", x.seed(0), 1);
        due("the greatest", x.seed(MAX), 0);
        due("1", x.seed(1), MAX);
    }

    private static int drawOf(DayBelt x) {
        int draw = x.seed(0);
        x.seed(draw);
        return draw;
    }

    static void promise15_seed_BadBelow0() {
        Twins.same("-1", Belts::typing, BAD, x -> x.seed(-1));
        Twins.same("the least", Belts::typing, BAD, x -> x.seed(MIN));
    }
}
