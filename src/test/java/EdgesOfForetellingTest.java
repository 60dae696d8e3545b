import java.util.Random;

/** Promises 16 to 26: each sentence that names an edge, by itself. */
public final class EdgesOfForetellingTest {
    private static final int BAD = Belts.BAD, NONE = Belts.NONE;
    private static final String SIX = "p100,p100,p100,p100,p100,p100";

    private EdgesOfForetellingTest() {
    }

    public static void main(String[] args) {
        Check.each(EdgesOfForetellingTest.class);
        Check.end();
    }

    private static void due(String what, long got, long want) {
        Check.due(what, got, want);
    }

    /** Six floors and six people below, of day 0; car k is of day k, those from 7 on of days 0 .. 4. */
    private static DayBelt six() {
        DayBelt x = Belts.high(6, SIX);
        Belts.row(x, 0, 0, 1, 2, 3);
        Belts.type(x, "2;0123;p1");
        return x;
    }

    /** As six, but no car is of day 6. */
    private static DayBelt sixWithoutDay6() {
        DayBelt x = six();
        x.day(6, 0);
        return x;
    }

    // ---- 16 at

    static void promise16_at_FloorIsOneOfTheBlock() {
        Twins.range("floor", EdgesOfForetellingTest::six, 0, 0, 5, 5, (x, v) -> x.at(v, 0, 0));
        for (int high = 2; high <= 6; high++) {
            int h = high;
            Twins.range("floor of " + h, () -> Belts.high(h, "p100"), 0, 2 * h - 1, h - 1, h, (x, v) -> x.at(v, 1, 0));
        }
        Twins.range("floor at first", DayBelt::new, 0, 0, 2, 2, (x, v) -> x.at(v, 0, 0));
    }

    static void promise16_at_SideIs0Or1() {
        Twins.range("side", EdgesOfForetellingTest::six, 0, 0, 1, 11, (x, v) -> x.at(0, v, 0));
    }

    static void promise16_at_Behind0To999Steps() {
        Twins.range("n", EdgesOfForetellingTest::six, 0, 0, 999, Math.floorMod(-999, 12), (x, v) -> x.at(0, 0, v));
    }

    static void promise16_at_NothingIsChanged() {
        int car = Belts.typing().at(0, 0, 999);
        Twins.same("at", Belts::typing, car, x -> x.at(0, 0, 999));
    }

    static void promise16_at_AsItIsBehindTheSteps() {
        for (int high = 2; high <= 6; high++) {
            DayBelt x = Belts.high(high, "p100");
            int[] foretold = new int[2 * high];
            for (int n = 1; n <= 25; n++) {
                for (int place = 0; place < 2 * high; place++) {
                    foretold[place] = atPlace(x, high, place, 1);
                }
                x.steps(1);
                for (int place = 0; place < 2 * high; place++) {
                    due("foretold by 1", foretold[place], Math.floorMod(place - n, 2 * high));
                    due("now", atPlace(x, high, place, 0), Math.floorMod(place - n, 2 * high));
                }
            }
        }
    }

    private static int atPlace(DayBelt x, int high, int place, int n) {
        return place < high ? x.at(place, 0, n) : x.at(2 * high - 1 - place, 1, n);
    }

    static void promise16_at_BeyondTheLastStepToo() {
        due("behind 999 of 9999", Belts.worn(Belts.MOST_STEPS).at(0, 0, 999), Math.floorMod(-10998, 6));
    }

    // ---- 17 place

    static void promise17_place_CarIsOneOfTheBlock() {
        for (int high = 2; high <= 6; high++) {
            int h = high;
            Twins.range("car of " + h, () -> Belts.high(h, "p100"), 0, 1, 2 * h - 1, 0, (x, v) -> x.place(v, 1));
        }
        Twins.range("car at first", DayBelt::new, 0, 0, 5, 5, (x, v) -> x.place(v, 0));
    }

    static void promise17_place_Behind0To999Steps() {
        Twins.range("n", EdgesOfForetellingTest::six, 0, 3, 999, (3 + 999) % 12, (x, v) -> x.place(3, v));
    }

    static void promise17_place_FromTheLastPlaceToPlace0() {
        for (int high = 2; high <= 6; high++) {
            DayBelt x = Belts.high(high, "p100");
            for (int car = 0; car < 2 * high; car++) {
                due(high + ": in the last PLACE", x.place(car, 2 * high - 1 - car), 2 * high - 1);
                due(high + ": in PLACE 0", x.place(car, 2 * high - car), 0);
            }
        }
    }

    static void promise17_place_NothingIsChanged() {
        int place = Belts.typing().place(11, 999);
        Twins.same("place", Belts::typing, place, x -> x.place(11, 999));
    }

    static void promise17_place_BeyondTheLastStepToo() {
        due("behind 999 of 9999", Belts.worn(Belts.MOST_STEPS).place(5, 999), (5 + 10998) % 6);
    }

    // ---- 18 comes

    static void promise18_comes_DayIs0To6() {
        Twins.range("day", EdgesOfForetellingTest::six, 0, 0, 6, 6, (x, v) -> x.comes(v, 0, 0));
    }

    static void promise18_comes_FloorIsOneOfTheBlock() {
        Twins.range("floor", EdgesOfForetellingTest::six, 0, 0, 5, 5, (x, v) -> x.comes(0, v, 0));
        Twins.range("floor at first", DayBelt::new, 0, 0, 2, 2, (x, v) -> x.comes(0, v, 0));
    }

    static void promise18_comes_SideIs0Or1() {
        Twins.range("side", EdgesOfForetellingTest::six, 0, 0, 1, 4, (x, v) -> x.comes(0, 0, v));
    }

    static void promise18_comes_TheFirstOf0To11Steps() {
        for (int car = 0; car < 12; car++) {
            StringBuilder days = new StringBuilder("000000000000");
            days.setCharAt(car, '6');
            DayBelt x = Belts.block("6;" + days + ";p100");
            due("CAR " + car + " comes to PLACE 0", x.comes(6, 0, 0), Math.floorMod(-car, 12));
            due("CAR " + car + " comes to the last PLACE", x.comes(6, 0, 1), 11 - car);
        }
    }

    static void promise18_comes_TheSoonerOfTwo() {
        DayBelt x = Belts.block("6;000600000060;p100");
        due("CAR 10 ahead of CAR 3", x.comes(6, 0, 0), 2);
        x.steps(3);
        due("CAR 3 then", x.comes(6, 0, 0), 6);
    }

    static void promise18_comes_None() {
        for (int high = 2; high <= 6; high++) {
            DayBelt x = Belts.block(high + ";" + "5".repeat(2 * high) + ";p100");
            due(high + ": of DAY 5", x.comes(5, high - 1, 1), 0);
            due(high + ": of DAY 6", x.comes(6, high - 1, 1), NONE);
        }
        Twins.same("none", EdgesOfForetellingTest::sixWithoutDay6, NONE, x -> x.comes(6, 0, 0));
    }

    static void promise18_comes_BadAheadOfNone() {
        Twins.same("floor", EdgesOfForetellingTest::sixWithoutDay6, BAD, x -> x.comes(6, 6, 0));
        Twins.same("side", EdgesOfForetellingTest::sixWithoutDay6, BAD, x -> x.comes(6, 0, 2));
    }

    static void promise18_comes_NothingIsChanged() {
        int n = Belts.typing().comes(4, 5, 1);
        Twins.same("comes", Belts::typing, n, x -> x.comes(4, 5, 1));
    }

    // ---- 19 soonest

    static void promise19_soonest_PersonIsOneThatCame() {
        Twins.range("person", EdgesOfForetellingTest::six, 0, 5, 5, 5, (x, v) -> x.soonest(v, 5, 0, 0));
        Twins.bad("person of five", Belts::typing, 0, 4, (x, v) -> x.soonest(v, 5, 0, 0));
        Twins.same("person 0 of none", DayBelt::new, BAD, x -> x.soonest(0, 0, 0, 0));
    }

    static void promise19_soonest_FloorIsOneOfTheBlock() {
        Twins.range("floor", EdgesOfForetellingTest::six, 0, 0, 5, 5, (x, v) -> x.soonest(0, v, 0, 0));
        Twins.range("floor of 2", () -> Belts.high(2, "p100"), 0, 0, 1, 1, (x, v) -> x.soonest(0, v, 0, 0));
    }

    static void promise19_soonest_DayIs0To6() {
        // car 6 comes down to floor 0 behind five steps; who goes up two floors meets it on its way
        Twins.range("day", EdgesOfForetellingTest::six, 0, 0, 6, 5, (x, v) -> x.soonest(0, 0, v, 0));
    }

    static void promise19_soonest_WhatIs0Or1() {
        Twins.range("what", EdgesOfForetellingTest::six, 0, 5, 1, 1, (x, v) -> x.soonest(0, 5, 0, v));
    }

    static void promise19_soonest_None() {
        for (int what = 0; what < 2; what++) {
            int w = what;
            Twins.same("what " + w, EdgesOfForetellingTest::sixWithoutDay6, NONE, x -> x.soonest(0, 0, 6, w));
        }
    }

    static void promise19_soonest_BadAheadOfNone() {
        Twins.same("floor", EdgesOfForetellingTest::sixWithoutDay6, BAD, x -> x.soonest(0, 6, 6, 0));
        Twins.same("what", EdgesOfForetellingTest::sixWithoutDay6, BAD, x -> x.soonest(0, 0, 6, 2));
    }

    static void promise19_soonest_OfNoStepsThatOneMore() {
        DayBelt x = Belts.block("2;3456;p100");
        due("it is there", x.soonest(0, 0, 0, 0), 0);
        due("it stays", x.soonest(0, 0, 0, 1), 0);
        x.in(0, 0);
        due("in a CAR it is not there", x.soonest(0, 0, 0, 0), NONE);
        due("but by OUT on the CAR's DAY", x.soonest(0, 0, 3, 0), 0);
        due("OUT", x.soonest(0, 0, 3, 1), 3);
    }

    static void promise19_soonest_BehindTheLastStepOneMore() {
        DayBelt x = Belts.block("2;3456;p100");
        due("IN, a STEP, OUT", x.soonest(0, 1, 3, 0), 1);
        due("IN on side 0", x.soonest(0, 1, 3, 1), 1);
        due("IN, a STEP, OUT where it was", x.soonest(0, 0, 6, 0), 1);
        due("IN on side 1", x.soonest(0, 0, 6, 1), 2);
    }

    static void promise19_soonest_WhateverLoadsAre() {
        DayBelt x = Belts.block("2;3456;k900,p900");
        x.rule(0, 1);
        x.in(0, 0);
        due("IN is refused", x.in(1, 0), Belts.FULL);
        due("but foretold", x.soonest(1, 1, 3, 0), 1);
    }

    /** All ride just ahead of a turn; to get on by another car, who is turned out there need not get out first. */
    static void promise19_soonest_WhoIsTurnedOutAboveNeedNotGetOut() {
        int[] moves = {3, 0, 3, 3, 3};
        DayBelt x = Belts.block("3;012345;p106,s106,h106,k106,a106");
        rideAll(x, 0, 2);
        for (int p = 0; p < 5; p++) {
            due("kind " + p + ": OUT, a STEP, IN, a STEP, OUT", x.soonest(p, 2, 5, 0), 2);
            due("kind " + p + ": first", x.soonest(p, 2, 5, 1), moves[p]);
        }
    }

    static void promise19_soonest_WhoIsTurnedOutBelowNeedNotGetOut() {
        int[] moves = {3, 0, 3, 3, 0};
        DayBelt x = Belts.block("3;012345;p116,s116,h116,k116,a116");
        rideAll(x, 1, 1);
        for (int p = 0; p < 5; p++) {
            due("kind " + p + ": OUT, a STEP, IN, a STEP, OUT", x.soonest(p, 0, 3, 0), 2);
            due("kind " + p + ": first", x.soonest(p, 0, 3, 1), moves[p]);
        }
    }

    private static void rideAll(DayBelt x, int side, int n) {
        for (int p = 0; p < x.count(0); p++) {
            x.in(p, side);
        }
        x.steps(n);
    }

    static void promise19_soonest_NothingIsChanged() {
        for (int what = 0; what < 2; what++) {
            int w = what;
            int answer = Belts.typing().soonest(1, 5, 3, w);
            Check.that("there is one", answer >= 0);
            Twins.same("soonest", Belts::typing, answer, x -> x.soonest(1, 5, 3, w));
        }
    }

    static void promise19_soonest_BeyondTheLastStepToo() {
        DayBelt x = Belts.worn(Belts.MOST_STEPS);
        DayBelt y = Belts.worn(Belts.MOST_STEPS - 6 * 100);
        for (int floor = 0; floor < 3; floor++) {
            for (int day = 0; day < 6; day++) {
                due("as a hundred rounds ahead", x.soonest(1, floor, day, 0), y.soonest(1, floor, day, 0));
            }
        }
    }

    /** What is foretold is done: each move and a step, and what is foretold then. */
    static void promise19_soonest_TheLeastMoveByWhichItCanBeSoSoon() {
        Random random = new Random(19);
        for (int k = 0; k < 5000; k++) {
            long seed = random.nextLong();
            int high = some(seed).count(2);
            int floor = random.nextInt(high);
            int day = random.nextInt(7);
            int n = some(seed).soonest(0, floor, day, 0);
            int least = NONE;
            for (int move = 3; move >= 0; move--) {
                least = n != NONE && leftBehind(some(seed), move, floor, day) == n ? move : least;
            }
            due("first move of " + n + ", seed " + seed, some(seed).soonest(0, floor, day, 1), least);
        }
    }

    /** How soon it is there by a first move, or NONE. */
    private static int leftBehind(DayBelt x, int move, int floor, int day) {
        int done = move == 0 ? 0 : move == 3 ? x.out(0) : x.in(0, move - 1);
        if (done < 0) {
            return NONE;
        }
        if (x.of(0, 3) == NONE && x.of(0, 2) == floor && x.of(0, 4) == day) {
            return 0;
        }
        x.steps(1);
        int rest = x.soonest(0, floor, day, 0);
        return rest == NONE ? NONE : rest + 1;
    }

    /** A small belt with two light people, where a few things were done. */
    private static DayBelt some(long seed) {
        Random random = new Random(seed);
        int high = 2 + random.nextInt(5);
        StringBuilder text = new StringBuilder().append(high).append(';');
        for (int car = 0; car < 2 * high; car++) {
            text.append(random.nextInt(7));
        }
        for (int p = 0; p < 2; p++) {
            text.append(p == 0 ? ';' : ',').append("pshka".charAt(random.nextInt(5))).append(1);
            text.append(random.nextInt(high)).append(random.nextInt(7));
        }
        DayBelt x = Belts.block(text.toString());
        for (int p = 0; p < 2; p++) {
            if (random.nextBoolean()) {
                x.in(p, random.nextInt(2));
            }
            x.steps(1 + random.nextInt(9));
        }
        return x;
    }

    // ---- 20 never

    static void promise20_never_PersonIsOneThatCame() {
        Twins.range("person", EdgesOfForetellingTest::sixWithoutDay6, 0, 63, 5, 63, (x, v) -> x.never(v, 6));
        Twins.bad("person of five", Belts::typing, 0, 4, (x, v) -> x.never(v, 0));
        Twins.same("person 0 of none", DayBelt::new, BAD, x -> x.never(0, 0));
    }

    static void promise20_never_DayIs0To6() {
        Twins.range("day", EdgesOfForetellingTest::sixWithoutDay6, 0, 0, 6, 63, (x, v) -> x.never(0, v));
    }

    static void promise20_never_AllFloorsOrNoneOrAllButItsOwn() {
        for (int high = 2; high <= 6; high++) {
            for (int floor = 0; floor < high; floor++) {
                DayBelt x = Belts.block(high + ";" + "5".repeat(2 * high) + ";p1" + floor + "6");
                due("of a CAR's DAY", x.never(0, 5), 0);
                due("of nobody's DAY", x.never(0, 4), (1 << high) - 1);
                due("of its own DAY", x.never(0, 6), (1 << high) - 1 - (1 << floor));
                x.in(0, 0);
                due("in a CAR", x.never(0, 6), (1 << high) - 1);
            }
        }
    }

    static void promise20_never_AsSoonestHasNone() {
        for (int seed = 0; seed < 200; seed++) {
            DayBelt x = some(seed);
            for (int day = 0; day < 7; day++) {
                int set = 0;
                for (int floor = 0; floor < x.count(2); floor++) {
                    set |= x.soonest(1, floor, day, 0) == NONE ? 1 << floor : 0;
                }
                due("day " + day + " of seed " + seed, x.never(1, day), set);
            }
        }
    }

    static void promise20_never_NothingIsChanged() {
        int set = Belts.typing().never(4, 6);
        Twins.same("never", Belts::typing, set, x -> x.never(4, 6));
    }

    // ---- 21 meet

    /** Six people on floor 3 of day 5. */
    private static DayBelt together() {
        return Belts.high(6, "p135,s135,h135,k135,a135,p135");
    }

    static void promise21_meet_PersonIsOneThatCame() {
        Twins.range("person", EdgesOfForetellingTest::together, 0, 3, 5, 3, (x, v) -> x.meet(v, 2, 1));
        Twins.bad("person of five", Belts::typing, 0, 4, (x, v) -> x.meet(v, 2, 1));
        Twins.same("persons of none", DayBelt::new, BAD, x -> x.meet(0, 1, 0));
    }

    static void promise21_meet_OtherIsOneThatCame() {
        Twins.range("other", EdgesOfForetellingTest::together, 0, 3, 5, 3, (x, v) -> x.meet(2, v, 1));
        Twins.bad("other of five", Belts::typing, 0, 4, (x, v) -> x.meet(2, v, 1));
        Twins.same("the one and no other", () -> Belts.high(2, "p100"), BAD, x -> x.meet(0, 1, 0));
    }

    static void promise21_meet_WhatIs0To2() {
        Twins.range("what", EdgesOfForetellingTest::together, 0, 0, 2, 5, (x, v) -> x.meet(0, 5, v));
        due("what 1", together().meet(0, 5, 1), 3);
    }

    static void promise21_meet_BadAlike() {
        for (int person = 0; person < 6; person++) {
            int p = person;
            Twins.same("alike", EdgesOfForetellingTest::together, BAD, x -> x.meet(p, p, 0));
        }
    }

    static void promise21_meet_TheFloorComesAheadOfTheDay() {
        DayBelt x = Belts.block("2;0123;p105,p106");
        due("STEPS", x.meet(0, 1, 0), 1);
        due("FLOOR 0, not 1", x.meet(0, 1, 1), 0);
        due("DAY 3, not 0", x.meet(0, 1, 2), 3);
    }

    static void promise21_meet_InACarIsNotOnAFloor() {
        DayBelt x = Belts.block("2;3456;p100,p103");
        x.in(0, 0);
        due("one gets OUT on the other's DAY", x.meet(0, 1, 0), 0);
        x.in(1, 0);
        due("both get OUT of one CAR", x.meet(0, 1, 0), 0);
        due("on the FLOOR past which it goes", x.meet(0, 1, 1), 0);
        due("on its DAY", x.meet(0, 1, 2), 3);
    }

    /** The fewest steps in which both can be on a spot, then the least floor, then the least day. */
    static void promise21_meet_AsSoonestOfBothTells() {
        int manyDays = 0;
        for (int seed = 0; seed < 1500; seed++) {
            DayBelt x = some(seed);
            int best = 99;
            int spot = NONE;
            int daysOfBest = 0;
            for (int floor = 0; floor < x.count(2); floor++) {
                for (int day = 0; day < 7; day++) {
                    int one = x.soonest(0, floor, day, 0);
                    int two = x.soonest(1, floor, day, 0);
                    int n = one == NONE || two == NONE ? 99 : Math.max(one, two);
                    daysOfBest = n < best ? 1 : n == best && spot / 7 == floor ? daysOfBest + 1 : daysOfBest;
                    spot = n < best ? 7 * floor + day : spot;
                    best = Math.min(n, best);
                }
            }
            manyDays += daysOfBest > 1 ? 1 : 0;
            due("STEPS of seed " + seed, x.meet(0, 1, 0), best);
            due("FLOOR of seed " + seed, x.meet(1, 0, 1), spot / 7);
            due("DAY of seed " + seed, x.meet(0, 1, 2), spot % 7);
        }
        Check.that("there was more than one day on a floor at times", manyDays > 0);
    }

    static void promise21_meet_NothingIsChanged() {
        for (int what = 0; what < 3; what++) {
            int w = what;
            int answer = Belts.typing().meet(1, 3, w);
            Twins.same("meet", Belts::typing, answer, x -> x.meet(1, 3, w));
        }
    }

    // ---- 22 heaviest

    static void promise22_heaviest_WhatIs0Or1() {
        Twins.range("what", Belts::crowded, 0, 2, 1, 18, (x, v) -> x.heaviest(v));
    }

    static void promise22_heaviest_OfEmptyOnesTheFirst() {
        due("CAR at first", new DayBelt().heaviest(0), 0);
        due("how much at first", new DayBelt().heaviest(1), 0);
        DayBelt x = Belts.high(6, "p100");
        x.steps(5);
        due("CAR", x.heaviest(0), 0);
        due("how much", x.heaviest(1), 0);
    }

    static void promise22_heaviest_OfLikeOnesTheFirst() {
        DayBelt x = Belts.high(6, "p400,h200,p451,s451");
        due("into the last CAR", x.in(0, 1), 11);
        due("the last CAR", x.heaviest(0), 11);
        due("four", x.heaviest(1), 4);
        due("into CAR 5", x.in(2, 0), 5);
        due("CAR 5 is the first of two", x.heaviest(0), 5);
        due("into CAR 0", x.in(1, 0), 0);
        due("CAR 0 is the first of three", x.heaviest(0), 0);
        due("four", x.heaviest(1), 4);
        due("into CAR 6", x.in(3, 1), 6);
        due("CAR 0 still", x.heaviest(0), 0);
    }

    static void promise22_heaviest_EachCarByItself() {
        for (int high = 2; high <= 6; high++) {
            for (int place = 0; place < 2 * high; place++) {
                int floor = place < high ? place : 2 * high - 1 - place;
                DayBelt x = Belts.high(high, "p1" + floor + "0");
                x.in(0, place < high ? 0 : 1);
                due("CAR", x.heaviest(0), place);
                due("one", x.heaviest(1), 1);
            }
        }
    }

    static void promise22_heaviest_OneMoreIsHeavier() {
        DayBelt x = Belts.high(2, "p400,p510");
        x.in(0, 0);
        due("CAR 0", x.heaviest(0), 0);
        due("into CAR 2", x.in(1, 1), 2);
        due("CAR 2 by one more", x.heaviest(0), 2);
        due("five", x.heaviest(1), 5);
    }

    static void promise22_heaviest_NothingIsChanged() {
        Twins.same("which", Belts::crowded, 2, x -> x.heaviest(0));
        Twins.same("how much", Belts::crowded, 18, x -> x.heaviest(1));
    }

    // ---- 23 changed

    static void promise23_changed_PersonIsOneThatCame() {
        Twins.range("person", EdgesOfForetellingTest::six, 0, 1, 5, 1, (x, v) -> x.changed(v, 5, 1, 0));
        Twins.bad("person of five", Belts::typing, 0, 4, (x, v) -> x.changed(v, 5, 1, 0));
        Twins.same("person 0 of none", DayBelt::new, BAD, x -> x.changed(0, 0, 0, 0));
    }

    static void promise23_changed_FloorIsOneOfTheBlock() {
        Twins.range("floor", EdgesOfForetellingTest::six, 0, 111, 5, 1, (x, v) -> x.changed(0, v, 1, 0));
        Twins.bad("floor of 2", () -> Belts.high(2, "p100"), 0, 1, (x, v) -> x.changed(0, v, 1, 0));
    }

    static void promise23_changed_DayIs0To6() {
        Twins.range("day", EdgesOfForetellingTest::six, 0, NONE, 6, 6, (x, v) -> x.changed(0, 5, v, 0));
    }

    static void promise23_changed_WhatIs0Or1() {
        Twins.range("what", EdgesOfForetellingTest::six, 0, 1, 1, 5, (x, v) -> x.changed(0, 5, 1, v));
    }

    static void promise23_changed_NoneIfNoneMakesItSooner() {
        for (int what = 0; what < 2; what++) {
            int w = what;
            Twins.same("it is there", EdgesOfForetellingTest::six, NONE, x -> x.changed(0, 0, 0, w));
            Twins.same("as soon as can be", EdgesOfForetellingTest::six, NONE, x -> x.changed(0, 5, 0, w));
            Twins.same("never", EdgesOfForetellingTest::sixWithoutDay6, NONE, x -> x.changed(0, 5, 6, w));
        }
    }

    static void promise23_changed_BadAheadOfNone() {
        Twins.same("floor", EdgesOfForetellingTest::sixWithoutDay6, BAD, x -> x.changed(0, 6, 6, 0));
        Twins.same("what", EdgesOfForetellingTest::sixWithoutDay6, BAD, x -> x.changed(0, 0, 6, 2));
    }

    static void promise23_changed_TheFirstAndTheLastTwo() {
        due("CARS 0 and 1", Belts.block("6;010000000000;p100").changed(0, 1, 1, 0), 1);
        due("CARS 10 and 11", Belts.block("6;000000000010;p100").changed(0, 0, 1, 0), 1011);
        due("how soon", Belts.block("6;000000000010;p100").changed(0, 0, 1, 1), 1);
        due("CARS 2 and 3", Belts.block("2;0010;p100").changed(0, 0, 1, 0), 203);
    }

    static void promise23_changed_OfLikeOnesTheFirst() {
        DayBelt x = Belts.block("3;011111;p100");
        due("CAR 0 with any: the first", x.changed(0, 1, 1, 0), 1);
        x = Belts.block("3;000110;p100");
        due("CAR 0 with 3 or 4", x.changed(0, 1, 1, 0), 3);
        x = Belts.block("3;000011;p100");
        due("CAR 0 with 4 or 5", x.changed(0, 1, 1, 0), 4);
    }

    static void promise23_changed_SoonerByOneIsEnough() {
        // car 5 of day 1 comes below in one step: floor 1 is reached behind two; by car 0 behind one
        DayBelt x = Belts.block("3;000001;p100");
        due("as it is", x.soonest(0, 1, 1, 0), 2);
        due("which", x.changed(0, 1, 1, 0), 5);
        due("how soon", x.changed(0, 1, 1, 1), 1);
    }

    static void promise23_changed_OfOneInACarTheCarsDayChangesToo() {
        DayBelt x = Belts.block("3;012345;p100");
        x.in(0, 1);
        due("in CAR 5, for DAY 0", x.changed(0, 0, 0, 0), 5);
        due("at once", x.changed(0, 0, 0, 1), 0);
    }

    /** Every two cars' days are changed by hand, and changed back. */
    static void promise23_changed_AsSoonestTellsBehindEachChange() {
        Random random = new Random(23);
        int some = 0;
        for (int k = 0; k < 300; k++) {
            long seed = random.nextLong();
            int floor = random.nextInt(some(seed).count(2));
            int day = random.nextInt(7);
            int pair = bestByHand(some(seed), floor, day);
            some += pair == NONE ? 0 : 1;
            due("which, seed " + seed, some(seed).changed(0, floor, day, 0), pair);
            due("how soon, seed " + seed, some(seed).changed(0, floor, day, 1), soonByHand(some(seed), floor, day, pair));
        }
        Check.that("there was one often", some > 100);
    }

    private static int bestByHand(DayBelt x, int floor, int day) {
        int best = x.soonest(0, floor, day, 0);
        best = best == NONE ? 99 : best;
        int pair = NONE;
        for (int k = 0; k < 2 * x.count(2); k++) {
            for (int l = k + 1; l < 2 * x.count(2); l++) {
                int n = soonByHand(x, floor, day, 100 * k + l);
                if (n != NONE && n < best) {
                    best = n;
                    pair = 100 * k + l;
                }
            }
        }
        return pair;
    }

    private static int soonByHand(DayBelt x, int floor, int day, int pair) {
        if (pair == NONE) {
            return NONE;
        }
        int k = pair / 100;
        int l = pair % 100;
        x.day(k, x.day(l, x.car(k, 0)));
        int n = x.soonest(0, floor, day, 0);
        x.day(k, x.day(l, x.car(k, 0)));
        return n;
    }

    static void promise23_changed_NothingIsChanged() {
        for (int what = 0; what < 2; what++) {
            int w = what;
            int answer = Belts.typing().changed(2, 0, 3, w);
            Check.that("there is one", answer >= 0);
            Twins.same("changed", Belts::typing, answer, x -> x.changed(2, 0, 3, w));
        }
    }

    // ---- 24 goes

    static void promise24_goes_From0To30Steps() {
        Twins.range("n", Belts::typing, 0, 1000000, 30, 0, (x, v) -> x.goes(v, 50));
        Twins.range("n", Belts::typing, 0, 1000000, 30, 1000000, (x, v) -> x.goes(v, 0));
    }

    static void promise24_goes_From0To100OfAHundred() {
        Twins.range("s", Belts::typing, 0, 1000000, 100, 0, (x, v) -> x.goes(30, v));
        Twins.range("s of no STEPS", Belts::typing, 0, 1000000, 100, 1000000, (x, v) -> x.goes(0, v));
        due("99 of 100", new DayBelt().goes(3, 99), 1);
        due("99 of 100, once more", new DayBelt().goes(4, 99), 0);
    }

    static void promise24_goes_CutEachStep() {
        int apart = 0;
        for (int s = 0; s <= 100; s++) {
            long each = 1000000;
            double whole = 1000000;
            for (int n = 0; n <= 30; n++) {
                due("goes(" + n + ", " + s + ")", new DayBelt().goes(n, s), each);
                apart += each == (long) whole ? 0 : 1;
                each = each * (100 - s) / 100;
                whole = whole * (100 - s) / 100;
            }
        }
        Check.that("it is another than one cut at last", apart > 100);
    }

    // ---- 25 image

    static void promise25_image_AllButSheetsAndTheTape() {
        Twins.alike("all is as it was", EdgesOfForetellingTest::restored, EdgesOfForetellingTest::imaged);
    }

    private static DayBelt imaged() {
        DayBelt x = Belts.typing();
        x.image();
        return x;
    }

    /** What was kept comes back whatever was told and done since; sheets and the tape were not touched. */
    private static DayBelt restored() {
        DayBelt x = imaged();
        x.seed(3);
        x.rule(0, 59);
        x.rule(1, 23);
        for (int car = 0; car < 12; car++) {
            x.day(car, 3);
        }
        x.drift(9);
        for (int p = 0; p < 5; p++) {
            x.out(p);
            x.in(p, 1);
        }
        x.steps(60);
        x.undo();
        x.person(0, 9, 5, 6);
        x.steps(2);
        x.restore();
        return x;
    }

    static void promise25_image_SheetsAndTheTapeStay() {
        DayBelt x = Belts.rich();
        x.type('2');
        x.image();
        x.type(';');
        x.sheet(0, 3, 9);
        x.drop(1);
        x.restore();
        due("THE TAPE", x.type('0'), 3);
        due("a new SHEET", x.drop(0), 9);
        due("a dropped one", x.drop(1), Belts.NULL);
        due("one that was there", x.drop(2), 3);
    }

    static void promise25_image_ANewOneInPlaceOfTheOld() {
        DayBelt x = Belts.rich();
        due("image()", x.image(), 1);
        x.steps(1);
        int steps = x.count(1);
        due("image()", x.image(), 1);
        x.steps(9);
        due("restore()", x.restore(), 1);
        due("STEPS", x.count(1), steps);
    }

    static void promise25_image_ChangesNothingElse() {
        Twins.same("an image of what is kept already", EdgesOfForetellingTest::imaged, 1, DayBelt::image);
    }

    static void promise25_image_NobodyIsKeptToo() {
        DayBelt x = new DayBelt();
        x.image();
        x.person(0, 1, 0, 0);
        x.restore();
        due("PEOPLE", x.count(0), 0);
        due("fewest LUNCHES", x.count(8), NONE);
        due("the next one's number", x.person(1, 2, 1, 1), 0);
    }

    static void promise25_image_WhoCameSinceIsForgotten() {
        DayBelt x = Belts.high(2, "p100");
        x.rule(1, 2);
        x.image();
        x.person(0, 9, 0, 0);
        x.steps(2);
        x.in(1, 0);
        x.restore();
        due("who is in CARS", x.count(6), 0);
        due("LOAD of the heaviest", x.heaviest(1), 0);
        due("a new one in its place", x.person(0, 8, 1, 1), 1);
        due("its CAR", x.of(1, 3), NONE);
        due("its LUNCHES", x.of(1, 5), 0);
    }

    // ---- 26 restore

    static void promise26_restore_NoneThereIsNone() {
        Twins.same("at first", DayBelt::new, NONE, DayBelt::restore);
        Twins.same("behind a block", EdgesOfForetellingTest::six, NONE, DayBelt::restore);
    }

    static void promise26_restore_AgainAndAgain() {
        DayBelt x = imaged();
        int steps = x.count(1);
        for (int k = 0; k < 3; k++) {
            x.steps(60);
            x.undo();
            due("restore()", x.restore(), 1);
            due("STEPS", x.count(1), steps);
            due("what may be UNDONE", x.count(5), 8);
            due("undo()", x.undo(), 7);
        }
    }

    static void promise26_restore_BehindABlockOfOtherHeight() {
        Twins.alike("a lower block", () -> restoredBehind("2;6666;p116"), () -> onceImaged("6;012345601234;s353,a216"));
        Twins.alike("a higher block", () -> restoredBehindLow("6;666666666666;" + SIX), () -> onceImaged("2;3456;k113"));
    }

    private static DayBelt onceImaged(String text) {
        DayBelt x = Belts.block(text);
        x.in(0, 0);
        x.steps(9);
        x.image();
        return x;
    }

    private static DayBelt restoredBehind(String text) {
        DayBelt x = onceImaged("6;012345601234;s353,a216");
        Belts.take(x, text);
        x.steps(3);
        x.restore();
        return x;
    }

    private static DayBelt restoredBehindLow(String text) {
        DayBelt x = onceImaged("2;3456;k113");
        Belts.take(x, text);
        x.in(5, 1);
        x.steps(3);
        x.restore();
        return x;
    }

    static void promise26_restore_WhatMayBeUndoneToo() {
        DayBelt x = Belts.high(2, "p100");
        x.steps(11);
        x.image();
        for (int k = 0; k < 8; k++) {
            x.undo();
        }
        x.steps(5);
        x.restore();
        due("STEPS", x.count(1), 11);
        for (int k = 7; k >= 0; k--) {
            due("undo", x.undo(), k);
            due("STEPS", x.count(1), k + 3);
        }
        due("no more", x.undo(), NONE);
    }

    static void promise26_restore_AnUndoDoesNotUndoIt() {
        DayBelt x = Belts.high(2, "p100");
        x.steps(1);
        x.image();
        x.person(0, 1, 0, 0);
        x.steps(4);
        x.restore();
        due("PEOPLE", x.count(0), 1);
        due("undo", x.undo(), 0);
        due("PEOPLE", x.count(0), 1);
        due("STEPS", x.count(1), 0);
    }
}
