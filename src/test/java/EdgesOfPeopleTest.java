/** Promises 1 to 9: each sentence that names an edge, by itself. */
public final class EdgesOfPeopleTest {
    private static final int BAD = Belts.BAD, FULL = Belts.FULL, NONE = Belts.NONE, NULL = Belts.NULL;
    private static final String SIX = "p100,p100,p100,p100,p100,p100";
    private static final String GOOD = "2;0123;p100,s916";

    private EdgesOfPeopleTest() {
    }

    public static void main(String[] args) {
        Check.each(EdgesOfPeopleTest.class);
        Check.end();
    }

    private static void due(String what, long got, long want) {
        Check.due(what, got, want);
    }

    // ---- 1 a new object

    static void promise01_new_ABlockNobody() {
        int[] counts = {0, 0, 3, 20, 12, 0, 0, 0, NONE};
        for (int what = 0; what < counts.length; what++) {
            due("count(" + what + ")", new DayBelt().count(what), counts[what]);
        }
        DayBelt x = new DayBelt();
        for (int car = 0; car < 6; car++) {
            due("LOAD of CAR " + car, x.car(car, 4), 0);
            due("who is in CAR " + car, x.car(car, 5), 0);
        }
        for (int sheet = 0; sheet < 4; sheet++) {
            due("SHEET " + sheet, x.drop(sheet), NULL);
        }
        due("THE DRAW", x.seed(0), 1);
        due("no IMAGE", x.restore(), NONE);
        due("nothing to be UNDONE", x.undo(), NONE);
        due("an empty TAPE", x.type('2'), 1);
    }

    static void promise01_new_ObjectsAreApart() {
        Twins.alike("another object", EdgesOfPeopleTest::newBesideAnother, DayBelt::new);
    }

    private static DayBelt newBesideAnother() {
        DayBelt one = new DayBelt();
        DayBelt two = new DayBelt();
        one.person(0, 1, 0, 0);
        one.day(0, 6);
        one.rule(0, 5);
        one.steps(1);
        one.image();
        one.sheet(0, 0, 1);
        one.type('2');
        return two;
    }

    // ---- 2 person

    static void promise02_person_KindIs0To4() {
        Twins.range("kind", Belts::typing, 0, 5, 4, 5, (x, v) -> x.person(v, 1, 0, 0));
    }

    static void promise02_person_WeightIs1To9() {
        Twins.range("weight", Belts::typing, 1, 5, 9, 5, (x, v) -> x.person(0, v, 0, 0));
    }

    static void promise02_person_FloorIsOneOfTheBlock() {
        Twins.range("floor", Belts::typing, 0, 5, 5, 5, (x, v) -> x.person(0, 1, v, 0));
        for (int high = 2; high <= 6; high++) {
            int h = high;
            Twins.range("floor of " + h, () -> Belts.high(h, "p100"), 0, 1, h - 1, 1, (x, v) -> x.person(0, 1, v, 0));
        }
        Twins.range("floor at first", DayBelt::new, 0, 0, 2, 0, (x, v) -> x.person(0, 1, v, 0));
    }

    static void promise02_person_DayIs0To6() {
        Twins.range("day", Belts::typing, 0, 5, 6, 5, (x, v) -> x.person(0, 1, 0, v));
    }

    static void promise02_person_SixAreTakenASeventhIsFull() {
        DayBelt x = new DayBelt();
        for (int p = 0; p < 6; p++) {
            due("number", x.person(0, 1, 0, 0), p);
        }
        due("a seventh", x.person(0, 1, 0, 0), FULL);
        due("how many", x.count(0), 6);
        Twins.same("a seventh", Belts::crowded, FULL, y -> y.person(0, 1, 0, 0));
    }

    static void promise02_person_BadAheadOfFull() {
        Twins.same("a kind", Belts::crowded, BAD, x -> x.person(5, 1, 0, 0));
        Twins.same("a weight", Belts::crowded, BAD, x -> x.person(0, 10, 0, 0));
        Twins.same("a floor", Belts::crowded, BAD, x -> x.person(0, 1, 3, 0));
        Twins.same("a day", Belts::crowded, BAD, x -> x.person(0, 1, 0, 7));
    }

    static void promise02_person_ANewOneIsOnItsFloorWithoutLunch() {
        for (int kind = 0; kind < 5; kind++) {
            DayBelt x = Belts.rich();
            x.person(kind, 9, 5, 6);
            int[] wants = {kind, kind == Belts.HEAVY || kind == Belts.PORTER ? 18 : 9, 5, NONE, 6, 0};
            for (int what = 0; what < 6; what++) {
                due("of kind " + kind + ", what " + what, x.of(5, what), wants[what]);
            }
        }
    }

    // ---- 3 of

    static void promise03_of_PersonIsOneThatCame() {
        Twins.range("person of five", Belts::typing, 0, 0, 4, 4, (x, v) -> x.of(v, 0));
        Twins.range("person of six", Belts::crowded, 0, 0, 5, 0, (x, v) -> x.of(v, 0));
        Twins.range("person of one", () -> Belts.high(2, "k100"), 0, 3, 0, 3, (x, v) -> x.of(v, 0));
        Twins.same("person 0 of none", DayBelt::new, BAD, x -> x.of(0, 0));
        Twins.same("person -1 of none", DayBelt::new, BAD, x -> x.of(-1, 0));
    }

    static void promise03_of_WhatIs0To5() {
        Twins.range("what", Belts::typing, 0, 1, 5, Belts.typing().of(1, 5), (x, v) -> x.of(1, v));
    }

    static void promise03_of_NoneInNoCar() {
        DayBelt x = Belts.high(3, "p100");
        due("on a FLOOR", x.of(0, 3), NONE);
        x.in(0, 0);
        due("in CAR 0", x.of(0, 3), 0);
        x.out(0);
        due("OUT", x.of(0, 3), NONE);
    }

    static void promise03_of_InACarTheFloorPastWhichItGoes() {
        for (int high = 2; high <= 6; high++) {
            DayBelt x = Belts.high(high, "p100");
            x.in(0, 0);
            for (int n = 1; n <= 2 * high; n++) {
                x.steps(1);
                int place = n % (2 * high);
                due("behind " + n, x.of(0, 2), place < high ? place : 2 * high - 1 - place);
            }
        }
    }

    // ---- 4 car

    static void promise04_car_CarIsOneOfTheBlock() {
        for (int high = 2; high <= 6; high++) {
            int h = high;
            Twins.range("car of " + h, () -> Belts.high(h, "p100"), 0, 0, 2 * h - 1, 2 * h - 1, (x, v) -> x.car(v, 1));
        }
        Twins.range("car at first", DayBelt::new, 0, 0, 5, 5, (x, v) -> x.car(v, 1));
    }

    static void promise04_car_WhatIs0To5() {
        Twins.range("what", Belts::crowded, 0, 6, 5, 1 + 2 + 32, (x, v) -> x.car(0, v));
    }

    static void promise04_car_FewerCarsBehindALowerBlock() {
        DayBelt x = Belts.high(6, "p100");
        due("CAR 11", x.car(11, 1), 11);
        Belts.take(x, "2;0123;p100");
        due("CAR 3", x.car(3, 1), 3);
        due("CAR 4", x.car(4, 1), BAD);
    }

    static void promise04_car_LoadIsWhatAllInItWeigh() {
        DayBelt x = Belts.high(2, "h900,h900,h900,k900,k900,k900");
        x.rule(0, 60);
        int load = 0;
        for (int p = 0; p < 6; p++) {
            due("LOAD of " + p, x.car(0, 4), load);
            due("in", x.in(p, 0), 0);
            load += 18;
        }
        due("LOAD of all six", x.car(0, 4), 108);
    }

    // ---- 5 day

    static void promise05_day_CarIsOneOfTheBlock() {
        for (int high = 2; high <= 6; high++) {
            int h = high;
            Twins.range("car of " + h, () -> Belts.high(h, "p100"), 0, 0, 2 * h - 1, (2 * h - 1) % 7, (x, v) -> x.day(v, 1));
        }
        Twins.bad("car", Belts::typing, 0, 11, (x, v) -> x.day(v, 1));
    }

    static void promise05_day_DayIs0To6() {
        Twins.range("v", Belts::typing, 0, 1, 6, 1, (x, v) -> x.day(1, v));
    }

    static void promise05_day_WhatItWas() {
        DayBelt x = Belts.rich();
        due("to 6", x.day(11, 6), 4);
        due("to 0", x.day(11, 0), 6);
        due("to 0 again", x.day(11, 0), 0);
        due("its DAY", x.car(11, 0), 0);
        due("the DAY of CAR 10", x.car(10, 0), 3);
    }

    // ---- 6 rule

    static void promise06_rule_LimitIs1To60() {
        Twins.range("LIMIT", Belts::typing, 1, 30, 60, 30, (x, v) -> x.rule(0, v));
        for (int v = 1; v <= 60; v += 59) {
            DayBelt x = Belts.rich();
            x.rule(0, v);
            due("LIMIT becomes", x.count(3), v);
            due("NOON stays", x.count(4), 5);
        }
    }

    static void promise06_rule_NoonIs2To24() {
        Twins.range("NOON", Belts::typing, 2, 5, 24, 5, (x, v) -> x.rule(1, v));
        for (int v = 2; v <= 24; v += 22) {
            DayBelt x = Belts.rich();
            x.rule(1, v);
            due("NOON becomes", x.count(4), v);
            due("LIMIT stays", x.count(3), 30);
        }
    }

    static void promise06_rule_WhatIs0Or1() {
        Twins.range("what", Belts::typing, 0, 30, 1, 5, (x, v) -> x.rule(v, 10));
    }

    static void promise06_rule_ALesserLimitTurnsNobodyOut() {
        DayBelt x = Belts.high(3, "p900,p100,k100");
        x.in(0, 0);
        due("LIMIT 1", x.rule(0, 1), 20);
        due("who is in CARS", x.count(6), 1);
        due("nobody else gets IN", x.in(1, 0), FULL);
        due("but a PORTER", x.in(2, 0), 0);
    }

    static void promise06_rule_LunchesByNoon2And24() {
        for (int noon = 2; noon <= 24; noon += 22) {
            DayBelt x = Belts.high(3, "p100");
            x.rule(1, noon);
            x.steps(noon - 1);
            due("ahead of NOON " + noon, x.of(0, 5), 0);
            x.steps(1);
            due("at NOON " + noon, x.of(0, 5), 1);
            x.steps(noon - 1);
            due("ahead of the next NOON " + noon, x.of(0, 5), 1);
            x.steps(1);
            due("at the next NOON " + noon, x.of(0, 5), 2);
        }
    }

    // ---- 7 type

    static void promise07_type_LetterIs32To126() {
        Twins.range("letter", Belts::typing, 32, 10, 126, 10, (x, v) -> x.type(v));
        Twins.same("a digit's number", Belts::typing, BAD, x -> x.type(2));
    }

    static void promise07_type_SixtyAreTakenA61stIsFull() {
        DayBelt x = new DayBelt();
        for (int k = 1; k <= 60; k++) {
            due("letter " + k, x.type(' '), k);
        }
        due("letter 61", x.type(' '), FULL);
        due("again", x.type('2'), FULL);
        due("the end is behind 60", x.block(), -80);
        due("the TAPE is empty then", x.type('2'), 1);
        Twins.same("letter 61", EdgesOfPeopleTest::fullTape, FULL, y -> y.type('0'));
    }

    static void promise07_type_BadAheadOfFull() {
        Twins.same("letter 31", EdgesOfPeopleTest::fullTape, BAD, x -> x.type(31));
        Twins.same("letter 127", EdgesOfPeopleTest::fullTape, BAD, x -> x.type(127));
    }

    /** A block and blanks behind it, 60 letters in all. */
    private static DayBelt fullTape() {
        DayBelt x = Belts.rich();
        Belts.type(x, padded(GOOD, 60));
        return x;
    }

    private static String padded(String text, int length) {
        StringBuilder s = new StringBuilder(text);
        while (s.length() < length) {
            s.append(' ');
        }
        return s.toString();
    }

    // ---- 8 block

    private static void fault(String text, int place) {
        DayBelt x = new DayBelt();
        due("'" + text + "'", Belts.take(x, text), -20 - place);
        due("the TAPE behind '" + text + "'", x.type('2'), 1);
        due("nobody behind '" + text + "'", x.count(0), 0);
    }

    private static void good(String text, int people) {
        DayBelt x = new DayBelt();
        due("'" + text + "'", Belts.take(x, text), people);
        due("the TAPE behind '" + text + "'", x.type('2'), 1);
    }

    /** Every letter but a blank in every place of a text: just those that can stand there are no fault there. */
    static void promise08_block_EachLetterThatCantStandThere() {
        String[] may = {"23456", ";", "0123456", "0123456", "0123456", "0123456", ";", "pshka", "123456789", "01", "0123456",
            ",", "pshka", "123456789", "01", "0123456", ","};
        for (int place = 0; place < may.length; place++) {
            for (char letter = 33; letter < 127; letter++) {
                String rest = place + 1 < GOOD.length() ? GOOD.substring(place + 1) : "";
                String text = GOOD.substring(0, place) + letter + rest;
                if (may[place].indexOf(letter) < 0) {
                    fault(text, place);
                } else if (place > 0 && place < GOOD.length()) {
                    good(text, 2);
                }
            }
        }
    }

    static void promise08_block_TheEndIsHowManyThereAre() {
        for (int length = 0; length < GOOD.length(); length++) {
            if (length != 11) {
                fault(GOOD.substring(0, length), length);
            }
        }
        good(GOOD.substring(0, 11), 1);
        good(GOOD, 2);
    }

    static void promise08_block_AnEmptyTapeIsAFault() {
        fault("", 0);
        Twins.same("an empty tape", Belts::rich, -20, DayBelt::block);
    }

    static void promise08_block_BlanksAloneAreAFaultAtTheEnd() {
        fault(" ", 1);
        fault(padded("", 60), 60);
    }

    static void promise08_block_TwiceHighDays() {
        for (int high = 2; high <= 6; high++) {
            String days = "6".repeat(2 * high - 1);
            fault(high + ";" + days + ";p100", 2 + days.length());
            good(high + ";" + days + "0;p100", 1);
            fault(high + ";" + days + "00;p100", 3 + days.length());
        }
    }

    static void promise08_block_AFloorOfTheBlock() {
        for (int high = 2; high <= 6; high++) {
            String start = high + ";" + "0".repeat(2 * high) + ";p9";
            good(start + "00", 1);
            good(start + (high - 1) + "6", 1);
            fault(start + high + "0", start.length());
        }
    }

    static void promise08_block_OneToSixPeople() {
        fault("2;0123;", 7);
        StringBuilder text = new StringBuilder("2;0123;p100");
        for (int people = 1; people <= 6; people++) {
            good(text.toString(), people);
            text.append(",p100");
        }
        fault(text.toString(), 7 + 6 * 5 - 1);
        fault("2;0123;" + SIX + ",", 7 + 6 * 5 - 1);
    }

    static void promise08_block_NoCommaWithoutOneBehindIt() {
        fault("2;0123;p100,", 12);
        fault("2;0123;p100, ", 13);
        fault("2;0123;,p100", 7);
        fault("2;0123;p100,,p100", 12);
    }

    static void promise08_block_KindsInTheirOrder() {
        for (int kind = 0; kind < 5; kind++) {
            DayBelt x = Belts.block("2;0123;" + "pshka".charAt(kind) + "100");
            due("kind", x.of(0, 0), kind);
        }
    }

    static void promise08_block_BlanksCountForNothing() {
        for (int place = 0; place <= GOOD.length(); place++) {
            for (int blanks = 1; blanks <= 60 - GOOD.length(); blanks += 43) {
                String text = GOOD.substring(0, place) + " ".repeat(blanks) + GOOD.substring(place);
                good(text, 2);
                Twins.alike("'" + text + "'", () -> Belts.block(text), () -> Belts.block(GOOD));
            }
        }
        StringBuilder wide = new StringBuilder(" ");
        for (int k = 0; k < GOOD.length(); k++) {
            wide.append(GOOD.charAt(k)).append("  ");
        }
        good(wide.toString(), 2);
    }

    /** The place is that of the letter itself, on the tape, where blanks have places too. */
    static void promise08_block_AFaultIsBehindBlanks() {
        fault(" x", 1);
        fault("2 x", 2);
        fault("2;01  7", 6);
        fault("2 ; 0 1 2 3 ; q", 14);
        fault("2 ; 0 1 2 3 ; p 0", 16);
        fault("2;0123;p100  x", 13);
        fault("2;0123;p1 ", 10);
        fault(padded("2;0123;p1", 60), 60);
        fault(padded("2;0123;p100", 59) + "x", 59);
    }

    static void promise08_block_OtherSignsAreNoBlanks() {
        fault("2;0123;p100_", 11);
        fault("2;0123;p100.", 11);
        fault("_2;0123;p100", 0);
    }

    static void promise08_block_AFaultChangesNothingButTheTape() {
        String[] texts = {"", "1", "2", "2x", "6;01234560123", "6;012345601234", "2;0123;", "2;0123;p", "3;666666;p9", "3;666666;p92",
            "2;0123;p113,h", "2;6666;p116x", "2;6666;" + SIX + ",", "   ", "4;33333333;h111,s222,p999"};
        for (String text : texts) {
            Twins.same("a fault of '" + text + "'", Belts::rich, faultOf(text), x -> Belts.take(x, text));
        }
    }

    private static int faultOf(String text) {
        int answer = Belts.take(new DayBelt(), text);
        Check.that("'" + text + "' is a FAULT", answer <= -20);
        return answer;
    }

    static void promise08_block_ABlockInPlaceOfAll() {
        DayBelt x = Belts.rich();
        due("a block", Belts.take(x, "3;654321;a926,p115"), 2);
        int[] counts = {2, 0, 3, 30, 5, 0, 0, 0, 0};
        for (int what = 0; what < counts.length; what++) {
            due("count(" + what + ")", x.count(what), counts[what]);
        }
        int[] aunt = {Belts.AUNT, 9, 2, NONE, 6, 0};
        for (int what = 0; what < aunt.length; what++) {
            due("of(0, " + what + ")", x.of(0, what), aunt[what]);
        }
        due("PERSON 2", x.of(2, 0), BAD);
        due("CAR 6", x.car(6, 0), BAD);
        for (int car = 0; car < 6; car++) {
            due("DAY of CAR " + car, x.car(car, 0), 6 - car);
        }
    }

    static void promise08_block_LimitNoonAndTheDrawStay() {
        DayBelt x = new DayBelt();
        x.rule(0, 60);
        x.rule(1, 24);
        x.seed(Integer.MAX_VALUE);
        due("a block", Belts.take(x, GOOD), 2);
        due("LIMIT", x.count(3), 60);
        due("NOON", x.count(4), 24);
        due("THE DRAW", x.seed(0), Integer.MAX_VALUE);
    }

    static void promise08_block_StepsAre0AndNobodyHadLunch() {
        DayBelt x = Belts.worn(240);
        Check.that("there were LUNCHES", x.count(7) > 0);
        due("a block", Belts.take(x, GOOD), 2);
        due("STEPS", x.count(1), 0);
        due("LUNCHES", x.count(7), 0);
        due("who is in CARS", x.count(6), 0);
        for (int car = 0; car < 4; car++) {
            due("PLACE of CAR " + car, x.car(car, 1), car);
            due("DAY of CAR " + car, x.car(car, 0), car);
        }
    }

    static void promise08_block_SheetsAndTheImageStay() {
        DayBelt x = Belts.rich();
        due("a block", Belts.take(x, GOOD), 2);
        due("SHEET 1", x.drop(1), 6);
        due("SHEET 3", x.drop(3), NULL);
        due("the IMAGE", x.restore(), 1);
        due("PEOPLE", x.count(0), 5);
    }

    static void promise08_block_AFullTapeIsABlockToo() {
        DayBelt x = fullTape();
        due("a 61st letter", x.type('x'), FULL);
        due("block()", x.block(), 2);
    }

    // ---- 9 count

    static void promise09_count_WhatIs0To8() {
        Twins.range("what", Belts::typing, 0, 5, 8, Belts.typing().count(8), (x, v) -> x.count(v));
        due("what 8 of nobody", new DayBelt().count(8), NONE);
    }

    static void promise09_count_FewestLunchesOfNobodyAreNone() {
        DayBelt x = new DayBelt();
        x.steps(24);
        due("fewest", x.count(8), NONE);
        due("all", x.count(7), 0);
        x.person(0, 1, 2, 0);
        due("fewest of one", x.count(8), 0);
        x.person(0, 1, 0, 0);
        x.steps(12);
        due("fewest of two", x.count(8), 0);
        due("all of two", x.count(7), 1);
    }

    static void promise09_count_FewestWhoeverHasThem() {
        for (int least = 0; least < 6; least++) {
            StringBuilder people = new StringBuilder();
            for (int p = 0; p < 6; p++) {
                people.append(p == 0 ? "p1" : ",p1").append(p == least ? 1 : 0).append(0);
            }
            DayBelt x = Belts.high(2, people.toString());
            x.rule(1, 2);
            x.steps(4);
            due("fewest, of " + least, x.count(8), 0);
            due("all, but of " + least, x.count(7), 10);
            x.in(least, 1);
            x.steps(1);
            x.out(least);
            x.steps(1);
            due("fewest, of " + least, x.count(8), 1);
        }
    }

    static void promise09_count_MostStepsAndLunches() {
        DayBelt x = Belts.high(2, SIX);
        x.rule(1, 2);
        for (int k = 0; k < 166; k++) {
            x.steps(60);
        }
        x.steps(39);
        due("STEPS", x.count(1), Belts.MOST_STEPS);
        due("all LUNCHES", x.count(7), 6 * 4999);
        due("fewest LUNCHES", x.count(8), 4999);
    }

    static void promise09_count_WhatMayBeUndoneIs0To8() {
        DayBelt x = Belts.high(2, "p100");
        for (int k = 0; k < 12; k++) {
            due("behind " + k, x.count(5), Math.min(k, 8));
            if (k % 2 == 0) {
                x.in(0, 0);
            } else {
                x.out(0);
            }
        }
    }
}
