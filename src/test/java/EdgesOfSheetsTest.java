/** Promises 27 to 32: each sentence that names an edge, by itself. */
public final class EdgesOfSheetsTest {
    private static final int BAD = Belts.BAD, NOT = Belts.NOT, NONE = Belts.NONE;
    private static final int NULL = Belts.NULL, CAST = Belts.CAST, INDEX = Belts.INDEX, SIZE = Belts.SIZE;
    private static final int LANES = Belts.LANES, MIN = Integer.MIN_VALUE, MAX = Integer.MAX_VALUE;

    private EdgesOfSheetsTest() {
    }

    public static void main(String[] args) {
        Check.each(EdgesOfSheetsTest.class);
        Check.end();
    }

    private static void due(String what, long got, long want) {
        Check.due(what, got, want);
    }

    /**
     * People of 1, 2, 4, 8, 16, so that the least set that weighs an item is the item. Sheet 0 of the lane holds
     * 1, 2, 4, 8, 16; sheet 1 of the next lane 3, 3; sheet 2 of the lane 5, 6, 7; sheet 3 is missing.
     */
    private static DayBelt binary(int lane) {
        DayBelt x = Belts.block("3;012345;p100,p200,p410,p820,h820");
        x.in(0, 0);
        x.in(1, 0);
        x.image();
        Belts.row(x, 0, lane, 1, 2, 4, 8, 16);
        Belts.row(x, 1, (lane + 1) % LANES, 3, 3);
        Belts.row(x, 2, lane, 5, 6, 7);
        Belts.type(x, "2;0123;p1");
        return x;
    }

    private static DayBelt bytes() {
        return binary(0);
    }

    private static DayBelt longs() {
        return binary(3);
    }

    private static void items(String what, DayBelt x, int sheet, int lane, int... wants) {
        for (int i = 0; i < wants.length; i++) {
            due(what + ", item " + i, x.weighed(sheet, lane, i, 1, 1), wants[i]);
        }
        due(what + ", no more items", x.weighed(sheet, lane, wants.length, 1, 1), INDEX);
    }

    // ---- 27 weighed

    static void promise27_weighed_SheetIs0To3() {
        Twins.range("sheet", EdgesOfSheetsTest::bytes, 0, 1, 3, NULL, (x, v) -> x.weighed(v, 0, 0, 1, 0));
        DayBelt x = bytes();
        x.sheet(3, 0, 1);
        due("sheet 3", x.weighed(3, 0, 0, 1, 0), 1);
    }

    static void promise27_weighed_LaneIs0To3() {
        Twins.range("lane", EdgesOfSheetsTest::bytes, 0, 1, 3, CAST, (x, v) -> x.weighed(0, v, 0, 1, 0));
        Twins.range("lane", EdgesOfSheetsTest::longs, 0, CAST, 3, 1, (x, v) -> x.weighed(0, v, 0, 1, 0));
    }

    static void promise27_weighed_LoadsOf1To4Cars() {
        Twins.range("n", EdgesOfSheetsTest::bytes, 1, 1, 4, 15, (x, v) -> x.weighed(0, 0, 0, v, 1));
    }

    static void promise27_weighed_WhatIs0Or1() {
        Twins.range("what", EdgesOfSheetsTest::bytes, 0, 1, 1, 16, (x, v) -> x.weighed(0, 0, 4, 1, v));
    }

    static void promise27_weighed_NullOfAMissingSheet() {
        Twins.same("sheet 3", EdgesOfSheetsTest::bytes, NULL, x -> x.weighed(3, 0, 0, 1, 0));
        DayBelt x = bytes();
        x.drop(0);
        due("a dropped one", x.weighed(0, 0, 0, 1, 0), NULL);
        x.sheet(0, 0, 0);
        due("an empty one is not missing", x.weighed(0, 0, 0, 1, 0), INDEX);
    }

    static void promise27_weighed_CastOfAnotherLane() {
        for (int lane = 0; lane < LANES; lane++) {
            for (int as = 0; as < LANES; as++) {
                int l = lane;
                int a = as;
                Twins.same(l + " as " + a, () -> binary(l), l == a ? 1 : CAST, x -> x.weighed(0, a, 0, 1, 0));
            }
        }
    }

    static void promise27_weighed_IndexOnBothSides() {
        due("the first", bytes().weighed(0, 0, 0, 1, 1), 1);
        due("the last", bytes().weighed(0, 0, 4, 1, 1), 16);
        due("the last four", bytes().weighed(0, 0, 1, 4, 1), 30);
        Twins.same("ahead of the first", EdgesOfSheetsTest::bytes, INDEX, x -> x.weighed(0, 0, -1, 1, 1));
        Twins.same("ahead of the first, many", EdgesOfSheetsTest::bytes, INDEX, x -> x.weighed(0, 0, -1, 4, 1));
        Twins.same("behind the last", EdgesOfSheetsTest::bytes, INDEX, x -> x.weighed(0, 0, 5, 1, 1));
        Twins.same("four of three left", EdgesOfSheetsTest::bytes, INDEX, x -> x.weighed(0, 0, 2, 4, 1));
        Twins.same("two of one left", EdgesOfSheetsTest::bytes, INDEX, x -> x.weighed(0, 0, 4, 2, 1));
        Twins.same("the greatest", EdgesOfSheetsTest::bytes, INDEX, x -> x.weighed(0, 0, MAX, 4, 1));
        Twins.same("the least", EdgesOfSheetsTest::bytes, INDEX, x -> x.weighed(0, 0, MIN, 4, 1));
    }

    static void promise27_weighed_ItemsAre0To999() {
        for (int lane = 0; lane < LANES; lane++) {
            DayBelt x = binary(lane);
            Belts.row(x, 0, lane, 0, -1, lane == 0 ? 127 : 999, lane == 0 ? -128 : 1000);
            due("0", x.weighed(0, lane, 0, 1, 0), 1);
            due("-1", x.weighed(0, lane, 1, 1, 0), NOT);
            due("999", x.weighed(0, lane, 2, 1, 0), 0);
            due("999, the set", x.weighed(0, lane, 2, 1, 1), NONE);
            due("1000", x.weighed(0, lane, 3, 1, 0), NOT);
            due("1000, the set", x.weighed(0, lane, 3, 1, 1), NOT);
        }
        DayBelt x = longs();
        Belts.row(x, 0, 3, Long.MAX_VALUE, Long.MIN_VALUE, 1L << 32, (1L << 32) + 1);
        for (int i = 0; i < 4; i++) {
            due("far off, item " + i, x.weighed(0, 3, i, 1, 0), NOT);
        }
        Twins.same("1000", EdgesOfSheetsTest::withABadItem, NOT, y -> y.weighed(0, 1, 2, 1, 0));
    }

    /** Shorts 1, 0, 1000, 0, 0, -1, 0, 0, 0, 0. */
    private static DayBelt withABadItem() {
        DayBelt x = binary(1);
        Belts.row(x, 0, 1, 1, 0, 1000, 0, 0, -1, 0, 0, 0, 0);
        return x;
    }

    static void promise27_weighed_NotWhereverTheItemIs() {
        for (int i = 0; i <= 6; i++) {
            boolean bad = i <= 2 || i <= 5 && i + 3 >= 5;
            due("four from " + i, withABadItem().weighed(0, 1, i, 4, 0), bad ? NOT : 1);
        }
        due("just ahead of it", withABadItem().weighed(0, 1, 0, 2, 0), 1);
        due("just behind and ahead of one", withABadItem().weighed(0, 1, 3, 2, 0), 1);
        due("to it", withABadItem().weighed(0, 1, 0, 3, 0), NOT);
        due("just behind it", withABadItem().weighed(0, 1, 6, 4, 0), 1);
    }

    static void promise27_weighed_TheFirstThatIsNamed() {
        DayBelt x = withABadItem();
        due("BAD ahead of NULL, by lane", x.weighed(3, 4, 0, 1, 0), BAD);
        due("BAD ahead of NULL, by n", x.weighed(3, 0, 0, 0, 0), BAD);
        due("BAD ahead of NULL, by what", x.weighed(3, 0, 0, 1, 2), BAD);
        due("BAD ahead of CAST, by n", x.weighed(0, 0, 0, 5, 0), BAD);
        due("BAD ahead of INDEX, by what", x.weighed(0, 1, 99, 1, -1), BAD);
        due("BAD ahead of NOT, by what", x.weighed(0, 1, 2, 1, 2), BAD);
        due("NULL ahead of INDEX", x.weighed(3, 0, -1, 1, 0), NULL);
        due("CAST ahead of INDEX", x.weighed(0, 0, -1, 1, 0), CAST);
        due("CAST ahead of NOT", x.weighed(0, 2, 2, 1, 0), CAST);
        due("INDEX ahead of NOT", x.weighed(0, 1, 7, 4, 0), INDEX);
        Belts.row(x, 0, 1, 0, 1000);
        due("INDEX ahead of NOT", x.weighed(0, 1, 1, 2, 0), INDEX);
    }

    static void promise27_weighed_NoneIfNobodyFits() {
        DayBelt x = bytes();
        x.item(0, 0, 0, 31);
        due("all of them", x.weighed(0, 0, 0, 1, 1), 31);
        x.item(0, 0, 0, 32);
        due("one more: ways", x.weighed(0, 0, 0, 1, 0), 0);
        due("one more: the set", x.weighed(0, 0, 0, 1, 1), NONE);
        Belts.row(x, 0, 0, 1, 1);
        due("one in two CARS: ways", x.weighed(0, 0, 0, 2, 0), 0);
        due("one in two CARS: the set", x.weighed(0, 0, 0, 2, 1), NONE);
    }

    static void promise27_weighed_NobodyMakesNothing() {
        DayBelt x = new DayBelt();
        Belts.row(x, 0, 0, 0, 0, 0, 0, 1);
        due("ways", x.weighed(0, 0, 0, 4, 0), 1);
        due("the set", x.weighed(0, 0, 0, 4, 1), 0);
        due("ways of something", x.weighed(0, 0, 4, 1, 0), 0);
        due("the set of something", x.weighed(0, 0, 4, 1, 1), NONE);
    }

    static void promise27_weighed_EmptyCarsAreAWayToo() {
        DayBelt x = bytes();
        Belts.row(x, 0, 0, 0, 0, 0, 0);
        due("ways", x.weighed(0, 0, 0, 4, 0), 1);
        due("the set", x.weighed(0, 0, 0, 4, 1), 0);
    }

    static void promise27_weighed_TheLeastSetIsTheLeastNumber() {
        // weights 5, 3, 2, 5: the sets that weigh 5 are {0}, {3} and {1, 2}
        DayBelt x = Belts.high(2, "p500,p300,h100,p500");
        Belts.row(x, 0, 2, 5, 5, 5, 5);
        due("ways", x.weighed(0, 2, 0, 1, 0), 3);
        due("the set", x.weighed(0, 2, 0, 1, 1), 1);
        due("ways of two", x.weighed(0, 2, 0, 2, 0), 6);
        due("the set of two", x.weighed(0, 2, 0, 2, 1), 7);
        due("ways of three", x.weighed(0, 2, 0, 3, 0), 6);
        due("the set of three", x.weighed(0, 2, 0, 3, 1), 15);
        due("ways of four", x.weighed(0, 2, 0, 4, 0), 0);
    }

    static void promise27_weighed_MostPeopleAndCars() {
        DayBelt x = Belts.high(2, "h900,h900,h900,k900,k900,k900");
        Belts.row(x, 0, 0, 108, 54, 54, 18, 36, 18, 36);
        due("all in one", x.weighed(0, 0, 0, 1, 0), 1);
        due("all in one, the set", x.weighed(0, 0, 0, 1, 1), 63);
        due("three and three", x.weighed(0, 0, 1, 2, 0), 20);
        due("one, two, one, two", x.weighed(0, 0, 3, 4, 0), 6 * 10 * 3);
    }

    static void promise27_weighed_NothingIsChanged() {
        Twins.same("ways", EdgesOfSheetsTest::bytes, 1, x -> x.weighed(0, 0, 0, 4, 0));
        Twins.same("the set", EdgesOfSheetsTest::bytes, 15, x -> x.weighed(0, 0, 0, 4, 1));
    }

    // ---- 28 film

    static void promise28_film_FloorIsOneOfTheBlock() {
        Twins.range("floor", EdgesOfSheetsTest::bytes, 0, 1, 2, 1, (x, v) -> x.film(v, 0, 1, 0, 0, 0));
        for (int high = 2; high <= 6; high++) {
            int h = high;
            Twins.range("floor of " + h, () -> withSheet(h), 0, 24, h - 1, 24, (x, v) -> x.film(v, 1, 24, 0, 0, 0));
        }
    }

    private static DayBelt withSheet(int high) {
        DayBelt x = Belts.high(high, "p100");
        x.sheet(0, 0, 24);
        return x;
    }

    static void promise28_film_SideIs0Or1() {
        Twins.range("side", EdgesOfSheetsTest::bytes, 0, 1, 1, 1, (x, v) -> x.film(0, v, 1, 0, 0, 0));
    }

    static void promise28_film_Behind1To24Steps() {
        Twins.range("n", () -> withSheet(3), 1, 1, 24, 24, (x, v) -> x.film(0, 0, v, 0, 0, 0));
    }

    static void promise28_film_SheetIs0To3() {
        Twins.range("sheet", EdgesOfSheetsTest::bytes, 0, 1, 3, NULL, (x, v) -> x.film(0, 0, 1, v, 0, 0));
    }

    static void promise28_film_LaneIs0To3() {
        Twins.range("lane", EdgesOfSheetsTest::bytes, 0, 1, 3, CAST, (x, v) -> x.film(0, 0, 1, 0, v, 0));
        Twins.range("lane", EdgesOfSheetsTest::longs, 0, CAST, 3, 1, (x, v) -> x.film(0, 0, 1, 0, v, 0));
    }

    static void promise28_film_NullOfAMissingSheet() {
        Twins.same("sheet 3", EdgesOfSheetsTest::bytes, NULL, x -> x.film(0, 0, 1, 3, 0, 0));
    }

    static void promise28_film_CastOfAnotherLane() {
        for (int lane = 0; lane < LANES; lane++) {
            for (int as = 0; as < LANES; as++) {
                int l = lane;
                int a = as;
                if (l == a) {
                    due(l + " as itself", binary(l).film(0, 0, 5, 0, a, 0), 5);
                } else {
                    Twins.same(l + " as " + a, () -> binary(l), CAST, x -> x.film(0, 0, 5, 0, a, 0));
                }
            }
        }
    }

    static void promise28_film_IndexOnBothSides() {
        due("from the first on", bytes().film(0, 0, 5, 0, 0, 0), 5);
        due("to the last", bytes().film(0, 0, 2, 0, 0, 3), 2);
        due("the last", bytes().film(0, 0, 1, 0, 0, 4), 1);
        Twins.same("six of five", EdgesOfSheetsTest::bytes, INDEX, x -> x.film(0, 0, 6, 0, 0, 0));
        Twins.same("three of two left", EdgesOfSheetsTest::bytes, INDEX, x -> x.film(0, 0, 3, 0, 0, 3));
        Twins.same("behind the last", EdgesOfSheetsTest::bytes, INDEX, x -> x.film(0, 0, 1, 0, 0, 5));
        Twins.same("ahead of the first", EdgesOfSheetsTest::bytes, INDEX, x -> x.film(0, 0, 5, 0, 0, -1));
        Twins.same("the greatest", EdgesOfSheetsTest::bytes, INDEX, x -> x.film(0, 0, 24, 0, 0, MAX));
        Twins.same("the least", EdgesOfSheetsTest::bytes, INDEX, x -> x.film(0, 0, 24, 0, 0, MIN));
        DayBelt x = bytes();
        x.sheet(3, 0, 0);
        due("an empty one", x.film(0, 0, 1, 3, 0, 0), INDEX);
    }

    static void promise28_film_TheFirstThatIsNamed() {
        Twins.same("BAD ahead of NULL, by floor", EdgesOfSheetsTest::bytes, BAD, x -> x.film(3, 0, 1, 3, 0, 0));
        Twins.same("BAD ahead of NULL, by n", EdgesOfSheetsTest::bytes, BAD, x -> x.film(0, 0, 25, 3, 0, 0));
        Twins.same("BAD ahead of NULL, by lane", EdgesOfSheetsTest::bytes, BAD, x -> x.film(0, 0, 1, 3, 4, 0));
        Twins.same("BAD ahead of CAST, by side", EdgesOfSheetsTest::bytes, BAD, x -> x.film(0, 2, 1, 0, 1, 0));
        Twins.same("BAD ahead of INDEX, by n", EdgesOfSheetsTest::bytes, BAD, x -> x.film(0, 0, 0, 0, 0, 9));
        Twins.same("NULL ahead of INDEX", EdgesOfSheetsTest::bytes, NULL, x -> x.film(0, 0, 24, 3, 0, -1));
        Twins.same("CAST ahead of INDEX", EdgesOfSheetsTest::bytes, CAST, x -> x.film(0, 0, 24, 0, 1, -1));
    }

    /** Car 0 with 1 and 2 in it goes up from place 0: it is at floor 2, side 0, behind 2 steps, and again behind 8. */
    static void promise28_film_FromTheFirstStepToTheLast() {
        for (int lane = 0; lane < LANES; lane++) {
            DayBelt x = binary(lane);
            due("film", x.film(2, 0, 2, 0, lane, 1), 2);
            items("lane " + lane, x, 0, lane, 1, 0, 3, 8, 16);
            x.sheet(0, lane, 24);
            due("film", x.film(2, 0, 24, 0, lane, 0), 24);
            for (int n = 1; n <= 24; n++) {
                due("behind " + n, x.weighed(0, lane, n - 1, 1, 1), n % 6 == 2 ? 3 : 0);
            }
        }
    }

    static void promise28_film_WhatIsNowIsNotInIt() {
        DayBelt x = bytes();
        due("LOAD now", x.car(x.at(0, 0, 0), 4), 3);
        x.film(0, 0, 5, 0, 0, 0);
        items("floor 0, side 0", x, 0, 0, 0, 0, 0, 0, 0);
        x.film(0, 1, 5, 0, 0, 0);
        items("floor 0, side 1", x, 0, 0, 0, 0, 0, 0, 3);
    }

    static void promise28_film_ShyOnesAreOutWhereTheBeltTurns() {
        String[] kinds = {"p", "s", "h", "k", "a"};
        int[] weighs = {1, 1, 2, 2, 1};
        for (int kind = 0; kind < 5; kind++) {
            DayBelt x = Belts.block("2;0123;" + kinds[kind] + "100,p200");
            x.in(0, 0);
            x.sheet(0, 0, 8);
            boolean outAbove = kind == Belts.SHY;
            boolean outBelow = outAbove || kind == Belts.AUNT;
            int[] loads = new int[8];
            for (int n = 1; n <= 8; n++) {
                int place = n % 4;
                boolean in = !(outAbove && n >= 2) && !(outBelow && n >= 4);
                loads[n - 1] = in ? weighs[kind] : 0;
                x.film(place == 1 || place == 2 ? 1 : 0, place < 2 ? 0 : 1, n, 0, 0, 0);
                int set = x.weighed(0, 0, n - 1, 1, 0) == 0 ? NONE : x.weighed(0, 0, n - 1, 1, 1);
                due("kind " + kind + " behind " + n, set, loads[n - 1] == 0 ? 0 : 1);
            }
        }
    }

    static void promise28_film_ComesToASheetAlone() {
        Twins.same("a film of loads that the sheet has", EdgesOfSheetsTest::filmed, 5, x -> x.film(2, 0, 5, 0, 0, 0));
    }

    private static DayBelt filmed() {
        DayBelt x = bytes();
        x.film(2, 0, 5, 0, 0, 0);
        return x;
    }

    static void promise28_film_BeyondTheLastStepToo() {
        DayBelt x = Belts.worn(Belts.MOST_STEPS);
        x.sheet(0, 0, 24);
        due("film", x.film(0, 0, 24, 0, 0, 0), 24);
        due("STEPS", x.count(1), Belts.MOST_STEPS);
    }

    /** All six are porters of 18: 108 is the most that a car can bear, and a byte holds it. */
    static void promise28_film_TheGreatestLoad() {
        for (int lane = 0; lane < LANES; lane++) {
            DayBelt x = Belts.high(2, "k900,k900,k900,k900,k900,k900");
            for (int p = 0; p < 6; p++) {
                x.in(p, 0);
            }
            x.sheet(0, lane, 1);
            due("film", x.film(1, 0, 1, 0, lane, 0), 1);
            due("all of them", x.weighed(0, lane, 0, 1, 1), 63);
        }
    }

    // ---- 29 sheet

    static void promise29_sheet_SheetIs0To3() {
        Twins.range("sheet", EdgesOfSheetsTest::bytes, 0, 4, 3, 4, (x, v) -> x.sheet(v, 0, 4));
    }

    static void promise29_sheet_LaneIs0To3() {
        Twins.range("lane", EdgesOfSheetsTest::bytes, 0, 4, 3, 4, (x, v) -> x.sheet(0, v, 4));
    }

    static void promise29_sheet_From0To24Items() {
        for (int lane = 0; lane < LANES; lane++) {
            int l = lane;
            for (int n = 0; n <= 24; n++) {
                DayBelt x = binary(l);
                due("n " + n, x.sheet(0, l, n), n);
                due("behind the last of " + n, x.item(0, l, n, 1), INDEX);
                due("the last of " + n, x.item(0, l, n - 1, 1), n == 0 ? INDEX : 1);
                due("it has " + n, x.drop(0), n);
            }
            Twins.same("n 25", () -> binary(l), BAD, x -> x.sheet(0, l, 25));
            Twins.same("the greatest n", () -> binary(l), BAD, x -> x.sheet(0, l, MAX));
        }
    }

    static void promise29_sheet_SizeBelow0() {
        Twins.same("n -1", EdgesOfSheetsTest::bytes, SIZE, x -> x.sheet(0, 0, -1));
        Twins.same("n -1 of a missing one", EdgesOfSheetsTest::bytes, SIZE, x -> x.sheet(3, 0, -1));
        Twins.same("the least n", EdgesOfSheetsTest::bytes, SIZE, x -> x.sheet(0, 0, MIN));
    }

    static void promise29_sheet_BadAheadOfSize() {
        Twins.same("sheet", EdgesOfSheetsTest::bytes, BAD, x -> x.sheet(4, 0, -1));
        Twins.same("lane", EdgesOfSheetsTest::bytes, BAD, x -> x.sheet(0, 4, -1));
        Twins.same("lane", EdgesOfSheetsTest::bytes, BAD, x -> x.sheet(0, -1, -1));
    }

    static void promise29_sheet_ANewRowInPlaceOfTheOld() {
        for (int lane = 0; lane < LANES; lane++) {
            for (int old = 0; old < LANES; old++) {
                DayBelt x = binary(old);
                due("a row", x.sheet(0, lane, 3), 3);
                items("of " + lane + " for " + old, x, 0, lane, 0, 0, 0);
                due("the old lane", x.weighed(0, old, 0, 1, 1), old == lane ? 0 : CAST);
                items("another sheet", x, 2, old, 5, 6, 7);
            }
        }
    }

    static void promise29_sheet_ALongerRowHasNothingOfTheOld() {
        DayBelt x = bytes();
        x.sheet(0, 0, 1);
        x.sheet(0, 0, 7);
        items("seven", x, 0, 0, 0, 0, 0, 0, 0, 0, 0);
    }

    // ---- 30 drop

    static void promise30_drop_SheetIs0To3() {
        Twins.range("sheet", EdgesOfSheetsTest::bytes, 0, 5, 3, NULL, (x, v) -> x.drop(v));
        DayBelt x = bytes();
        x.sheet(3, 1, 24);
        due("sheet 3", x.drop(3), 24);
    }

    static void promise30_drop_NullOfAMissingSheet() {
        Twins.same("sheet 3", EdgesOfSheetsTest::bytes, NULL, x -> x.drop(3));
        for (int sheet = 0; sheet < 4; sheet++) {
            int s = sheet;
            Twins.same("sheet " + s + " at first", DayBelt::new, NULL, x -> x.drop(s));
        }
        DayBelt x = bytes();
        due("had", x.drop(0), 5);
        due("again", x.drop(0), NULL);
        due("sheet 2 stays", x.drop(2), 3);
    }

    static void promise30_drop_AnEmptyOneHadNone() {
        for (int lane = 0; lane < LANES; lane++) {
            DayBelt x = new DayBelt();
            x.sheet(1, lane, 0);
            due("had", x.drop(1), 0);
            due("again", x.drop(1), NULL);
        }
    }

    static void promise30_drop_ItHoldsNothingThen() {
        DayBelt x = bytes();
        x.drop(0);
        due("item", x.item(0, 0, 0, 1), NULL);
        due("weighed", x.weighed(0, 0, 0, 1, 0), NULL);
        due("film", x.film(0, 0, 1, 0, 0, 0), NULL);
        due("copy from it", x.copy(0, 0, 2, 0, 0), NULL);
        due("copy to it", x.copy(2, 0, 0, 0, 0), NULL);
        due("a new row", x.sheet(0, 0, 5), 5);
        items("the new row", x, 0, 0, 0, 0, 0, 0, 0);
    }

    // ---- 31 item

    static void promise31_item_SheetIs0To3() {
        Twins.range("sheet", EdgesOfSheetsTest::bytes, 0, 1, 3, NULL, (x, v) -> x.item(v, 0, 0, 7));
        DayBelt x = bytes();
        x.sheet(3, 1, 24);
        due("sheet 3", x.item(3, 1, 23, 7), 1);
    }

    static void promise31_item_LaneIs0To3() {
        Twins.range("lane", EdgesOfSheetsTest::bytes, 0, 1, 3, CAST, (x, v) -> x.item(0, v, 0, 7));
        Twins.range("lane", EdgesOfSheetsTest::longs, 0, CAST, 3, 1, (x, v) -> x.item(0, v, 0, 7));
    }

    static void promise31_item_NullOfAMissingSheet() {
        Twins.same("sheet 3", EdgesOfSheetsTest::bytes, NULL, x -> x.item(3, 0, 0, 7));
    }

    static void promise31_item_CastOfAnotherLane() {
        for (int lane = 0; lane < LANES; lane++) {
            for (int as = 0; as < LANES; as++) {
                int l = lane;
                int a = as;
                if (l == a) {
                    due(l + " as itself", binary(l).item(0, a, 0, 7), 1);
                } else {
                    Twins.same(l + " as " + a, () -> binary(l), CAST, x -> x.item(0, a, 0, 7));
                }
            }
        }
    }

    static void promise31_item_IndexOnBothSides() {
        DayBelt y = bytes();
        due("the first", y.item(0, 0, 0, 7), 1);
        due("the last", y.item(0, 0, 4, 9), 1);
        items("both", y, 0, 0, 7, 2, 4, 8, 9);
        int[] beyond = {-1, 5, MIN, MAX};
        for (int i : beyond) {
            Twins.same("item " + i, EdgesOfSheetsTest::bytes, INDEX, x -> x.item(0, 0, i, 7));
        }
    }

    static void promise31_item_TheFirstThatIsNamed() {
        Twins.same("BAD ahead of NULL, by lane", EdgesOfSheetsTest::bytes, BAD, x -> x.item(3, 4, 0, 7));
        Twins.same("BAD ahead of INDEX, by lane", EdgesOfSheetsTest::bytes, BAD, x -> x.item(0, -1, 9, 7));
        Twins.same("NULL ahead of INDEX", EdgesOfSheetsTest::bytes, NULL, x -> x.item(3, 0, -1, 7));
        Twins.same("CAST ahead of INDEX", EdgesOfSheetsTest::bytes, CAST, x -> x.item(0, 1, -1, 7));
    }

    /** An item tells itself only by what people weigh and by being below 0 or above 999. */
    private static int told(int lane, long v) {
        DayBelt x = Belts.high(2, "p900,h900,h900,h900,p800,p700");
        Belts.row(x, 0, lane, v);
        return x.weighed(0, lane, 0, 1, 1);
    }

    static void promise31_item_TheLowestBits() {
        int[] width = {8, 16, 32, 64};
        int seven = 32;
        for (int lane = 0; lane < LANES; lane++) {
            due("7 in lane " + lane, told(lane, 7), seven);
            for (int bit = 3; bit < 64; bit++) {
                boolean within = bit < width[lane] - 1;
                int want = bit >= width[lane] ? seven : !within || bit >= 10 ? NOT : told(3, 7 + (1L << bit));
                due("7 and bit " + bit + " in lane " + lane, told(lane, 7 + (1L << bit)), want);
            }
        }
        due("71, of bits below a byte's sign", told(0, 71), 31);
        due("71 and all bits above a byte", told(0, 71 | -256L), 31);
        due("71 and all bits above a short", told(1, 71 | -65536L), 31);
        due("71 and all bits above an int", told(2, 71 | -1L << 32), 31);
    }

    static void promise31_item_TheGreatestAndTheLeastOfEachLane() {
        long[] most = {127, 32767, MAX, Long.MAX_VALUE};
        for (int lane = 0; lane < LANES; lane++) {
            due("the greatest of lane " + lane, told(lane, most[lane]), lane == 0 ? NONE : NOT);
            due("one more in lane " + lane, told(lane, most[lane] + 1), NOT);
            due("-1 in lane " + lane, told(lane, -1), NOT);
            due("0 in lane " + lane, told(lane, 0), 0);
            if (lane < 3) {
                due("all bits of lane " + lane + " and one more", told(lane, 2 * most[lane] + 2), 0);
                due("that, and 7", told(lane, 2 * most[lane] + 9), 32);
            }
        }
    }

    static void promise31_item_TheOtherItemsStay() {
        for (int lane = 0; lane < LANES; lane++) {
            DayBelt x = binary(lane);
            x.item(0, lane, 2, 31);
            items("lane " + lane, x, 0, lane, 1, 2, 31, 8, 16);
            items("the other sheet", x, 2, lane, 5, 6, 7);
        }
    }

    // ---- 32 copy

    static void promise32_copy_FromIs0To3() {
        Twins.range("from", EdgesOfSheetsTest::bytes, 0, 1, 3, NULL, (x, v) -> x.copy(v, 0, 2, 0, 1));
    }

    static void promise32_copy_ToIs0To3() {
        Twins.range("to", EdgesOfSheetsTest::bytes, 0, 1, 3, NULL, (x, v) -> x.copy(2, 0, v, 0, 1));
        DayBelt x = bytes();
        x.sheet(3, 0, 1);
        due("to 3", x.copy(0, 4, 3, 0, 1), 1);
        due("from 3", x.copy(3, 0, 0, 0, 1), 1);
        items("there and back", x, 0, 0, 16, 2, 4, 8, 16);
    }

    static void promise32_copy_NullOfEither() {
        Twins.same("from", EdgesOfSheetsTest::bytes, NULL, x -> x.copy(3, 0, 0, 0, 1));
        Twins.same("to", EdgesOfSheetsTest::bytes, NULL, x -> x.copy(0, 0, 3, 0, 1));
        Twins.same("both", EdgesOfSheetsTest::bytes, NULL, x -> x.copy(3, 0, 3, 0, 1));
        Twins.same("none of them", EdgesOfSheetsTest::bytes, NULL, x -> x.copy(0, 0, 3, 0, 0));
    }

    static void promise32_copy_CastOfUnlikeLanes() {
        for (int one = 0; one < LANES; one++) {
            for (int two = 0; two < LANES; two++) {
                int l = one;
                int a = two;
                if (l == a) {
                    due(l + " to its like", unlike(l, a).copy(0, 0, 1, 0, 2), 2);
                } else {
                    Twins.same(l + " to " + a, () -> unlike(l, a), CAST, x -> x.copy(0, 0, 1, 0, 2));
                    Twins.same(l + " to " + a + ", none", () -> unlike(l, a), CAST, x -> x.copy(0, 0, 1, 0, 0));
                }
            }
        }
    }

    private static DayBelt unlike(int lane, int other) {
        DayBelt x = binary(lane);
        Belts.row(x, 1, other, 3, 3);
        return x;
    }

    static void promise32_copy_IndexOfFrom() {
        due("all", bytes().copy(0, 0, 0, 0, 5), 5);
        due("the last", bytes().copy(0, 4, 2, 0, 1), 1);
        due("none behind the last", bytes().copy(0, 5, 2, 0, 0), 0);
        int[] beyond = {-1, 5, MIN, MAX};
        for (int i : beyond) {
            Twins.same("one from " + i, EdgesOfSheetsTest::bytes, INDEX, x -> x.copy(0, i, 2, 0, 1));
        }
        Twins.same("two from the last", EdgesOfSheetsTest::bytes, INDEX, x -> x.copy(0, 4, 2, 0, 2));
        Twins.same("none from one further", EdgesOfSheetsTest::bytes, INDEX, x -> x.copy(0, 6, 2, 0, 0));
        Twins.same("none from ahead", EdgesOfSheetsTest::bytes, INDEX, x -> x.copy(0, -1, 2, 0, 0));
        Twins.same("more than it has", EdgesOfSheetsTest::bytes, INDEX, x -> x.copy(2, 0, 0, 0, 4));
    }

    static void promise32_copy_IndexOfTo() {
        due("three", bytes().copy(0, 0, 2, 0, 3), 3);
        due("to the last", bytes().copy(0, 0, 2, 2, 1), 1);
        due("none behind the last", bytes().copy(0, 0, 2, 3, 0), 0);
        int[] beyond = {-1, 3, MIN, MAX};
        for (int j : beyond) {
            Twins.same("one to " + j, EdgesOfSheetsTest::bytes, INDEX, x -> x.copy(0, 0, 2, j, 1));
        }
        Twins.same("two to the last", EdgesOfSheetsTest::bytes, INDEX, x -> x.copy(0, 0, 2, 2, 2));
        Twins.same("none to one further", EdgesOfSheetsTest::bytes, INDEX, x -> x.copy(0, 0, 2, 4, 0));
        Twins.same("none to ahead", EdgesOfSheetsTest::bytes, INDEX, x -> x.copy(0, 0, 2, -1, 0));
        Twins.same("more than it has", EdgesOfSheetsTest::bytes, INDEX, x -> x.copy(0, 0, 2, 0, 4));
    }

    static void promise32_copy_IndexOfHowMany() {
        int[] beyond = {-1, 25, MIN, MAX};
        for (int n : beyond) {
            Twins.same(n + " items", EdgesOfSheetsTest::bytes, INDEX, x -> x.copy(0, 1, 2, 1, n));
            Twins.same(n + " items within one", EdgesOfSheetsTest::bytes, INDEX, x -> x.copy(0, 1, 0, 1, n));
        }
        Twins.same("all far off", EdgesOfSheetsTest::bytes, INDEX, x -> x.copy(0, MAX, 2, MAX, MAX));
        Twins.same("all far off", EdgesOfSheetsTest::bytes, INDEX, x -> x.copy(0, MIN, 2, MIN, MIN));
    }

    static void promise32_copy_TheFirstThatIsNamed() {
        Twins.same("BAD ahead of NULL, by to", EdgesOfSheetsTest::bytes, BAD, x -> x.copy(3, 0, 4, 0, 1));
        Twins.same("BAD ahead of NULL, by from", EdgesOfSheetsTest::bytes, BAD, x -> x.copy(-1, 0, 3, 0, 1));
        Twins.same("BAD ahead of INDEX", EdgesOfSheetsTest::bytes, BAD, x -> x.copy(0, 9, 4, 9, -1));
        Twins.same("NULL ahead of INDEX, by to", EdgesOfSheetsTest::bytes, NULL, x -> x.copy(0, 9, 3, 0, 1));
        Twins.same("NULL ahead of INDEX, by from", EdgesOfSheetsTest::bytes, NULL, x -> x.copy(3, 0, 0, 9, -1));
        Twins.same("CAST ahead of INDEX", EdgesOfSheetsTest::bytes, CAST, x -> x.copy(0, 9, 1, 9, -1));
    }

    static void promise32_copy_NoneChangesNothing() {
        Twins.same("none", EdgesOfSheetsTest::bytes, 0, x -> x.copy(0, 0, 2, 0, 0));
        Twins.same("all onto itself", EdgesOfSheetsTest::bytes, 5, x -> x.copy(0, 0, 0, 0, 5));
        DayBelt x = bytes();
        x.sheet(3, 0, 0);
        due("of an empty one", x.copy(3, 0, 3, 0, 0), 0);
        due("one of an empty one", x.copy(3, 0, 3, 0, 1), INDEX);
    }

    static void promise32_copy_AsIfAllWereTakenAhead() {
        for (int lane = 0; lane < LANES; lane++) {
            DayBelt x = binary(lane);
            due("up by one", x.copy(0, 0, 0, 1, 4), 4);
            items("up, lane " + lane, x, 0, lane, 1, 1, 2, 4, 8);
            x = binary(lane);
            due("down by one", x.copy(0, 1, 0, 0, 4), 4);
            items("down, lane " + lane, x, 0, lane, 2, 4, 8, 16, 16);
            x = binary(lane);
            due("up by three", x.copy(0, 0, 0, 3, 2), 2);
            items("up by three, lane " + lane, x, 0, lane, 1, 2, 4, 1, 2);
        }
    }

    static void promise32_copy_ToAnotherOneTheFirstStays() {
        for (int lane = 0; lane < LANES; lane++) {
            DayBelt x = binary(lane);
            due("two", x.copy(0, 3, 2, 1, 2), 2);
            items("to", x, 2, lane, 5, 8, 16);
            items("from", x, 0, lane, 1, 2, 4, 8, 16);
            x.item(2, lane, 1, 9);
            items("from, when the other is changed later", x, 0, lane, 1, 2, 4, 8, 16);
        }
    }

    static void promise32_copy_AllOf24() {
        for (int lane = 0; lane < LANES; lane++) {
            DayBelt x = binary(lane);
            x.sheet(0, lane, 24);
            x.sheet(2, lane, 24);
            x.item(0, lane, 0, 3);
            x.item(0, lane, 23, 9);
            due("24", x.copy(0, 0, 2, 0, 24), 24);
            due("the first", x.weighed(2, lane, 0, 1, 1), 3);
            due("the last", x.weighed(2, lane, 23, 1, 1), 9);
            due("25", x.copy(0, 0, 2, 0, 25), INDEX);
        }
    }
}
