/** Each promise of the document by itself: ordinary inputs, the edges that it names, wrong inputs. */
public final class PromisesTest {
    private static final int BAD = DayBelt.BAD, NOT = DayBelt.NOT, FULL = DayBelt.FULL, NONE = DayBelt.NONE;
    private static final int NULL = DayBelt.NULL, CAST = DayBelt.CAST, INDEX = DayBelt.INDEX, SIZE = DayBelt.SIZE;
    private static final int PLAIN = 0, SHY = 1, HEAVY = 2, PORTER = 3, AUNT = 4;
    private static final int MIN = Integer.MIN_VALUE, MAX = Integer.MAX_VALUE;

    private static int promise;

    private static void due(String call, long got, long want) {
        Check.due("promise " + promise + ": " + call, got, want);
    }

    public static void main(String[] args) {
        promise = 0; constants();
        promise = 1; newObject();
        promise = 2; person();
        promise = 3; of();
        promise = 4; car();
        promise = 5; day();
        promise = 6; rule();
        promise = 7; type();
        promise = 8; blockTexts(); blockEffects();
        promise = 9; count();
        promise = 10; in();
        promise = 11; out();
        promise = 12; steps(); turnedOut(); lunches();
        promise = 13; drift();
        promise = 14; undo(); undoneWhateverWasTold();
        promise = 15; seed();
        promise = 16; at();
        promise = 17; place();
        promise = 18; comes();
        promise = 19; soonest(); soonestOfShyOnes();
        promise = 20; never();
        promise = 21; meet();
        promise = 22; heaviest();
        promise = 23; changed();
        promise = 24; goes();
        promise = 25; image();
        promise = 26; restore();
        promise = 27; weighed(); weighedRefused();
        promise = 28; film();
        promise = 29; sheet();
        promise = 30; drop();
        promise = 31; item();
        promise = 32; copy();
        Check.end();
    }

    private static void constants() {
        due("BAD", BAD, -1);
        due("NOT", NOT, -2);
        due("FULL", FULL, -3);
        due("NONE", NONE, -4);
        due("NULL", NULL, -11);
        due("CAST", CAST, -12);
        due("INDEX", INDEX, -13);
        due("SIZE", SIZE, -14);
    }

    private static void newObject() {
        DayBelt x = new DayBelt();
        int[] counts = {0, 0, 3, 20, 12, 0, 0, 0, NONE};
        for (int what = 0; what < counts.length; what++) {
            due("count(" + what + ")", x.count(what), counts[what]);
        }
        for (int car = 0; car < 6; car++) {
            due("car(" + car + ", 0)", x.car(car, 0), car);
            due("car(" + car + ", 1)", x.car(car, 1), car);
        }
        due("car(6, 0)", x.car(6, 0), BAD);
        due("of(0, 0)", x.of(0, 0), BAD);
        due("seed(1)", x.seed(1), 1);
        due("restore()", x.restore(), NONE);
        due("undo()", x.undo(), NONE);
        due("block()", x.block(), -20);
        for (int s = 0; s < 4; s++) {
            due("drop(" + s + ")", x.drop(s), NULL);
        }
    }

    private static void person() {
        DayBelt x = new DayBelt();
        due("kind -1", x.person(-1, 1, 0, 0), BAD);
        due("kind 5", x.person(5, 1, 0, 0), BAD);
        due("weight 0", x.person(0, 0, 0, 0), BAD);
        due("weight 10", x.person(0, 10, 0, 0), BAD);
        due("floor -1", x.person(0, 1, -1, 0), BAD);
        due("floor 3", x.person(0, 1, 3, 0), BAD);
        due("day -1", x.person(0, 1, 0, -1), BAD);
        due("day 7", x.person(0, 1, 0, 7), BAD);
        due("far off", x.person(MIN, MAX, MIN, MAX), BAD);
        due("nobody came", x.count(0), 0);
        for (int p = 0; p < 6; p++) {
            due("person " + p, x.person(p % 5, p + 4, p % 3, p + 1), p);
        }
        due("a seventh", x.person(0, 1, 0, 0), FULL);
        due("a seventh, bad", x.person(0, 1, 3, 0), BAD);
        due("how many", x.count(0), 6);
        due("the last one's kind", x.of(5, 0), 0);
        due("the last one's weight", x.of(5, 1), 9);
        due("the last one's floor", x.of(5, 2), 2);
        due("the last one's day", x.of(5, 4), 6);

        x = new DayBelt();
        x.steps(2);
        due("a bad one", x.person(0, 0, 0, 0), BAD);
        due("undoable still", x.count(5), 2);
        due("a good one", x.person(0, 1, 0, 0), 0);
        due("nothing to be undone", x.count(5), 0);
        due("undo()", x.undo(), NONE);
        due("steps stay", x.count(1), 2);

        // what one was who is there no more is forgotten
        x = Belts.block("3;012345;p100");
        x.rule(1, 2);
        x.image();
        x.person(PLAIN, 9, 0, 0);
        x.steps(2);
        x.in(1, 0);
        x.restore();
        due("nobody rides", x.count(6), 0);
        due("nothing is borne", x.car(4, 4), 0);
        due("nobody is in it", x.car(4, 5), 0);
        due("lunches of one", x.count(7), 0);
        due("a new one in its place", x.person(PLAIN, 8, 1, 1), 1);
        due("in no car", x.of(1, 3), NONE);
        due("without lunch", x.of(1, 5), 0);
    }

    private static void of() {
        DayBelt x = Belts.block("3;654321;p300,s411,h522,k903,a204");
        int[] weighs = {3, 4, 10, 18, 2};
        for (int p = 0; p < 5; p++) {
            due("kind of " + p, x.of(p, 0), p);
            due("weight of " + p, x.of(p, 1), weighs[p]);
            due("car of " + p, x.of(p, 3), NONE);
            due("day of " + p, x.of(p, 4), p);
            due("lunches of " + p, x.of(p, 5), 0);
        }
        due("floor of 2", x.of(2, 2), 2);
        due("in", x.in(0, 0), 0);
        due("day in a car", x.of(0, 4), 6);
        x.day(0, 2);
        due("day in a car whose day became another", x.of(0, 4), 2);
        x.steps(2);
        due("floor in a car", x.of(0, 2), 2);
        due("car", x.of(0, 3), 0);
        x.steps(2);
        due("floor in a car on its way down", x.of(0, 2), 1);
        x.out(0);
        x.day(0, 5);
        due("day once it is out", x.of(0, 4), 2);
        due("person -1", x.of(-1, 0), BAD);
        due("person 5", x.of(5, 0), BAD);
        due("what -1", x.of(0, -1), BAD);
        due("what 6", x.of(0, 6), BAD);
        due("far off", x.of(MAX, MIN), BAD);
    }

    private static void car() {
        DayBelt x = Belts.block("2;3456;p900,h900,p111");
        x.rule(0, 60);
        x.in(0, 0);
        x.in(1, 0);
        x.in(2, 1);
        int[][] wants = {{3, 0, 0, 0, 27, 3}, {4, 1, 1, 0, 0, 0}, {5, 2, 1, 1, 1, 4}, {6, 3, 0, 1, 0, 0}};
        for (int car = 0; car < 4; car++) {
            for (int what = 0; what < 6; what++) {
                due("car(" + car + ", " + what + ")", x.car(car, what), wants[car][what]);
            }
        }
        x.steps(3);
        due("place of 0 then", x.car(0, 1), 3);
        due("floor of 0 then", x.car(0, 2), 0);
        due("side of 0 then", x.car(0, 3), 1);
        due("place of 2 then", x.car(2, 1), 1);
        due("load of 0 then", x.car(0, 4), 27);
        due("car -1", x.car(-1, 0), BAD);
        due("car 4", x.car(4, 0), BAD);
        due("what -1", x.car(0, -1), BAD);
        due("what 6", x.car(0, 6), BAD);
        x = Belts.block("6;012345601234;p151");
        due("car 11", x.car(11, 0), 4);
        due("car 12", x.car(12, 0), BAD);
        due("floor of 11", x.car(11, 2), 0);
        due("floor of 6", x.car(6, 2), 5);
    }

    private static void day() {
        DayBelt x = new DayBelt();
        due("day(5, 6)", x.day(5, 6), 5);
        due("day(5, 0)", x.day(5, 0), 6);
        due("car(5, 0)", x.car(5, 0), 0);
        due("car -1", x.day(-1, 0), BAD);
        due("car 6", x.day(6, 0), BAD);
        due("day -1", x.day(0, -1), BAD);
        due("day 7", x.day(0, 7), BAD);
        due("car(0, 0)", x.car(0, 0), 0);
        due("nothing to be undone", x.count(5), 0);
    }

    private static void rule() {
        DayBelt x = new DayBelt();
        due("LIMIT 60", x.rule(0, 60), 20);
        due("LIMIT 1", x.rule(0, 1), 60);
        due("LIMIT 0", x.rule(0, 0), BAD);
        due("LIMIT 61", x.rule(0, 61), BAD);
        due("LIMIT", x.count(3), 1);
        due("NOON 24", x.rule(1, 24), 12);
        due("NOON 2", x.rule(1, 2), 24);
        due("NOON 1", x.rule(1, 1), BAD);
        due("NOON 25", x.rule(1, 25), BAD);
        due("NOON", x.count(4), 2);
        due("what -1", x.rule(-1, 10), BAD);
        due("what 2", x.rule(2, 10), BAD);
    }

    private static void type() {
        DayBelt x = new DayBelt();
        due("31", x.type(31), BAD);
        due("127", x.type(127), BAD);
        due("-1", x.type(-1), BAD);
        due("32", x.type(32), 1);
        due("126", x.type(126), 2);
        for (int k = 3; k <= 60; k++) {
            due("letter " + k, x.type(65), k);
        }
        due("a 61st", x.type(65), FULL);
        due("a bad one", x.type(127), BAD);
        due("block()", x.block(), -21);
        due("empty then", x.type(65), 1);
    }

    private static void fault(String text, int place) {
        DayBelt x = Belts.block("2;0123;p110,s101");
        x.steps(3);
        due("block '" + text + "'", Belts.take(x, text), -20 - place);
        due("people behind '" + text + "'", x.count(0), 2);
        due("steps behind '" + text + "'", x.count(1), 3);
        due("high behind '" + text + "'", x.count(2), 2);
        due("undoable behind '" + text + "'", x.count(5), 3);
        due("day behind '" + text + "'", x.car(3, 0), 3);
        due("weight behind '" + text + "'", x.of(1, 1), 1);
        due("the tape behind '" + text + "'", x.type(65), 1);
    }

    private static void blockTexts() {
        fault("", 0);
        fault("   ", 3);
        fault("1", 0);
        fault("7", 0);
        fault(";0123;p110", 0);
        fault("2 0123;p110", 2);
        fault("  x", 2);
        fault("3", 1);
        fault("3  ", 3);
        fault("3,", 1);
        fault("3;", 2);
        fault("3;7", 2);
        fault("3;66655", 7);
        fault("3;66655;", 7);
        fault("3;666555", 8);
        fault("3;6665550", 8);
        fault("3;666555;", 9);
        fault("3;666555;x", 9);
        fault("3;666555;P", 9);
        fault("3;666555;p", 10);
        fault("3;666555;p0", 10);
        fault("3;666555;p1", 11);
        fault("3;666555;p13", 11);
        fault("3;666555;p12", 12);
        fault("3;666555;p127", 12);
        fault("3;666555;p126;", 13);
        fault("3;666555;p126x", 13);
        fault("3;666555;p126 5", 14);
        fault("3;666555;p126,", 14);
        fault("3;666555;p126,,", 14);
        fault("3;666555;p126, ", 15);
        fault("2;0123;p100,s100,h100,k100,a100,p1", 34);
        fault("2;0123;p100,s100,h100,k100,a100,p100,", 36);
        fault("2;0123;p100,s100,h100,k100,a100,p100 ,p100", 37);
        fault(" 3 ; 6 6 7", 9);
        fault("3;66655;p126", 7);
    }

    private static void blockEffects() {
        DayBelt x = new DayBelt();
        x.rule(0, 33);
        x.rule(1, 5);
        x.seed(77);
        x.person(0, 1, 0, 0);
        x.person(0, 1, 0, 0);
        x.steps(5);
        x.in(1, 0);
        due("a block", Belts.take(x, " 6 ; 012345 654321 ; p 1 5 6 , k902,a3 00 ,s400,h511 "), 5);
        int[] counts = {5, 0, 6, 33, 5, 0, 0, 0, 0};
        for (int what = 0; what < counts.length; what++) {
            due("count(" + what + ")", x.count(what), counts[what]);
        }
        due("THE DRAW", x.seed(0), 77);
        int[] kinds = {PLAIN, PORTER, AUNT, SHY, HEAVY};
        for (int p = 0; p < 5; p++) {
            due("kind of " + p, x.of(p, 0), kinds[p]);
        }
        due("weight of 0", x.of(0, 1), 1);
        due("floor of 0", x.of(0, 2), 5);
        due("day of 0", x.of(0, 4), 6);
        due("day of car 6", x.car(6, 0), 6);
        due("day of car 11", x.car(11, 0), 1);
        due("place of car 11", x.car(11, 1), 11);
        due("six people", Belts.take(x, "2;0000;p100,p100,p100,p100,p100,p100"), 6);
        due("they are six", x.count(0), 6);
        due("one", Belts.take(x, "2;6666;a916"), 1);
        due("car 4 is gone", x.car(4, 0), BAD);
        due("person 1 is gone", x.of(1, 0), BAD);
    }

    private static void count() {
        DayBelt x = Belts.block("3;012345;p100,s111,a102");
        x.rule(1, 2);
        x.steps(2);
        due("all lunches", x.count(7), 2);
        due("fewest", x.count(8), 0);
        x.in(2, 0);
        due("who is in cars", x.count(6), 4);
        due("undoable", x.count(5), 3);
        x.in(1, 1);
        due("who is in cars, two", x.count(6), 6);
        x.steps(2);
        due("all lunches of those below", x.count(7), 4);
        due("undoable, six", x.count(5), 6);
        x.steps(60);
        due("undoable, eight", x.count(5), 8);
        due("STEPS", x.count(1), 64);
        x = Belts.block("2;0123;p110,p100,p100");
        x.rule(1, 2);
        x.steps(2);
        due("the first one has fewest", x.count(8), 0);
        due("all", x.count(7), 2);
        x.in(0, 1);
        x.steps(1);
        x.out(0);
        x.steps(3);
        due("each had one at least", x.count(8), 2);
        due("what -1", x.count(-1), BAD);
        due("what 9", x.count(9), BAD);
    }

    private static void in() {
        DayBelt x = Belts.block("3;012345;p900,h900,k900,p100,s220,p300");
        due("person -1", x.in(-1, 0), BAD);
        due("person 6", x.in(6, 0), BAD);
        due("side -1", x.in(0, -1), BAD);
        due("side 2", x.in(0, 2), BAD);
        x.rule(0, 27);
        due("in(0, 0)", x.in(0, 0), 0);
        due("just LIMIT", x.in(1, 0), 0);
        due("above LIMIT", x.in(3, 0), FULL);
        due("a bad side while FULL", x.in(3, 2), BAD);
        due("a porter", x.in(2, 0), 0);
        due("LOAD", x.car(0, 4), 45);
        due("in a car already", x.in(0, 1), NOT);
        due("in a car already, full", x.in(0, 0), NOT);
        due("undoable", x.count(5), 3);
        due("the other side", x.in(3, 1), 5);
        due("at the top", x.in(4, 1), 3);
        x.steps(1);
        due("the car that is there now", x.in(5, 0), 5);
        x = Belts.block("3;012345;p900,p100");
        x.rule(0, 9);
        due("LIMIT of one", x.in(0, 0), 0);
        x.rule(0, 8);
        due("who is in stays", x.of(0, 3), 0);
        due("another one", x.in(1, 0), FULL);
        x.rule(0, 10);
        due("with more LIMIT", x.in(1, 0), 0);
        x = Belts.block("3;012345;p200,s200,h100,k100,a200");
        x.rule(0, 1);
        for (int p = 0; p < 5; p++) {
            due("kind " + p + " above LIMIT", x.in(p, 0), p == PORTER ? 0 : FULL);
        }
    }

    private static void out() {
        DayBelt x = Belts.block("3;654321;p900,s111");
        due("in no car", x.out(0), NOT);
        due("person -1", x.out(-1), BAD);
        due("person 2", x.out(2), BAD);
        due("nothing to be undone", x.count(5), 0);
        x.in(0, 0);
        due("where it got in", x.out(0), 0);
        due("the car's day", x.of(0, 4), 6);
        x.in(0, 1);
        x.steps(3);
        due("where the car is", x.out(0), 2);
        due("that car's day", x.of(0, 4), 1);
        due("its floor", x.of(0, 2), 2);
        due("its car", x.of(0, 3), NONE);
        due("nobody in cars", x.count(6), 0);
        due("undoable", x.count(5), 7);
    }

    private static void steps() {
        DayBelt x = new DayBelt();
        due("0", x.steps(0), BAD);
        due("61", x.steps(61), BAD);
        due("-1", x.steps(-1), BAD);
        due("far off", x.steps(MAX), BAD);
        due("none was done", x.count(1), 0);
        for (int k = 0; k < 166; k++) {
            x.steps(60);
        }
        due("STEPS", x.count(1), 9960);
        due("40 more", x.steps(40), FULL);
        due("still", x.count(1), 9960);
        due("39 more", x.steps(39), 0);
        due("STEPS at last", x.count(1), 9999);
        due("one more", x.steps(1), FULL);
        due("one more, bad", x.steps(61), BAD);
        due("undo()", x.undo(), 7);
        due("one more then", x.steps(1), 0);
        due("place of car 0", x.car(0, 1), 9999 % 6);
    }

    private static void turnedOut() {
        // each kind goes once round from floor 0, side 0, in one car
        DayBelt x = Belts.block("3;654321;p100,s100,h100,k100,a100");
        for (int p = 0; p < 5; p++) {
            x.in(p, 0);
        }
        due("up", x.steps(2), 31);
        due("at the top the shy one is out", x.steps(1), 29);
        due("its floor", x.of(1, 2), 2);
        due("its day", x.of(1, 4), 6);
        due("down", x.steps(2), 29);
        due("below the aunt is out", x.steps(1), 13);
        due("her floor", x.of(4, 2), 0);
        due("her day", x.of(4, 4), 6);
        due("her car", x.of(4, 3), NONE);
        x = Belts.block("3;654321;s100,a100,s120,a120");
        due("car on the other side", x.in(0, 1), 5);
        due("car on the other side, aunt", x.in(1, 1), 5);
        due("top", x.in(2, 0), 2);
        due("top, aunt", x.in(3, 0), 2);
        due("all turn", x.steps(1), 8);
        due("day below", x.of(0, 4), 1);
        due("day of aunt below", x.of(1, 4), 1);
        due("day above", x.of(2, 4), 4);
        due("floor above", x.of(2, 2), 2);
        due("the aunt goes on", x.of(3, 3), 2);
    }

    private static void lunches() {
        DayBelt x = Belts.block("2;0123;p100,p110,s100,p100,p100");
        x.rule(1, 2);
        x.in(2, 1);
        x.in(3, 1);
        x.steps(1);
        due("no noon yet", x.count(7), 0);
        x.steps(1);
        int[] first = {1, 0, 1, 0, 1};
        for (int p = 0; p < 5; p++) {
            due("lunches of " + p, x.of(p, 5), first[p]);
        }
        x.rule(1, 5);
        x.steps(2);
        due("noon is at multiples of 5 now", x.count(7), 3);
        due("who rides past floor 0 has none", x.of(3, 3), 3);
        x.steps(1);
        due("noon", x.count(7), 6);
        x = Belts.block("2;0123;s100");
        x.rule(1, 3);
        x.steps(2);
        x.in(0, 1);
        x.steps(1);
        due("who is turned out at noon has lunch", x.of(0, 5), 1);
    }

    private static void drift() {
        DayBelt x = Belts.block("3;012345;p100,p100,p100,p100,p100,p100");
        due("0", x.drift(0), BAD);
        due("61", x.drift(61), BAD);
        due("nobody rides, so it never stands", x.drift(60), 0);
        due("STEPS", x.count(1), 60);
        for (int p = 0; p < 6; p++) {
            x.in(p, p % 2);
        }
        long draw = 5;
        x.seed(5);
        int stood = 0;
        for (int k = 0; k < 40; k++) {
            draw = draw * 1103515245L + 12345L & 0x7fffffffL;
            stood += draw / 65536 % 12 < 6 ? 1 : 0;
        }
        due("drift(40)", x.drift(40), stood);
        Check.that("it stood at times and went at times", stood > 0 && stood < 40);
        due("STEPS behind it", x.count(1), 60 + 40 - stood);
        due("undoable", x.count(5), 8);
        due("THE DRAW", x.seed((int) draw), draw);
        x = new DayBelt();
        x.drift(1);
        due("the first draw", x.seed(0), 1103527590L);
        for (int k = 0; k < 166; k++) {
            x.drift(60);
        }
        due("STEPS", x.count(1), 9961);
        int before = x.seed(9);
        x.seed(before);
        due("39 more", x.drift(39), FULL);
        due("THE DRAW stays", x.seed(before), before);
        due("38 more", x.drift(38), 0);
        due("bad while full", x.drift(61), BAD);
    }

    private static void undo() {
        DayBelt x = Belts.block("3;654321;s100,p100");
        due("none", x.undo(), NONE);
        x.rule(1, 2);
        x.in(0, 0);
        x.steps(3);
        due("turned out", x.of(0, 3), NONE);
        due("undo the third step", x.undo(), 3);
        due("in the car again", x.of(0, 3), 0);
        due("STEPS", x.count(1), 2);
        due("lunch", x.of(1, 5), 1);
        due("undo the second step", x.undo(), 2);
        due("no lunch", x.of(1, 5), 0);
        due("undo the first step", x.undo(), 1);
        due("undo the in", x.undo(), 0);
        due("on the floor", x.of(0, 3), NONE);
        due("its own day", x.of(0, 4), 0);
        due("no more", x.undo(), NONE);
        x.steps(9);
        due("eight are known", x.count(5), 8);
        for (int k = 7; k >= 0; k--) {
            due("undo", x.undo(), k);
        }
        due("the ninth is lost", x.undo(), NONE);
        due("STEPS", x.count(1), 1);
        x.in(1, 0);
        x.out(1);
        due("day of a car", x.of(1, 4), 1);
        due("undo the out", x.undo(), 1);
        due("in it again", x.of(1, 3), 5);
        x.steps(2);
        due("a new one takes the place of the undone", x.undo(), 2);
        Belts.take(x, "2;0123;p100");
        due("a block leaves none", x.undo(), NONE);
    }

    private static void undoneWhateverWasTold() {
        DayBelt x = Belts.block("3;654321;p900,p901,p902");
        x.in(0, 0);
        x.out(0);
        x.day(0, 2);
        x.rule(0, 12);
        x.rule(1, 7);
        x.seed(99);
        due("undo", x.undo(), 1);
        due("days of cars stay", x.car(0, 0), 2);
        due("one in a car has its day", x.of(0, 4), 2);
        due("LIMIT stays", x.count(3), 12);
        due("NOON stays", x.count(4), 7);
        due("THE DRAW is as it was", x.seed(99), 1);
        due("undo the in", x.undo(), 0);
        due("its day is as it was", x.of(0, 4), 0);

        x.rule(0, 60);
        for (int p = 0; p < 3; p++) {
            x.in(p, 0);
        }
        x.seed(5);
        int stood = 0;
        for (int k = 0; k < 200 && stood == 0; k++) {
            int draw = x.seed(0);
            x.seed(draw);
            int steps = x.count(1);
            int known = x.count(5);
            stood = x.drift(1);
            int then = x.seed(0);
            x.seed(then);
            Check.that("the draw changed", then != draw);
            due("a drift's step is known", x.count(5), Math.min(8, known + 1));
            due("undo", x.undo(), Math.min(7, known));
            due("THE DRAW is as ahead of it", x.seed(then), draw);
            due("STEPS are as ahead of it", x.count(1), steps);
        }
        Check.that("it stood once", stood == 1);
    }

    private static void seed() {
        DayBelt x = new DayBelt();
        due("seed(0)", x.seed(0), 1);
        due("seed(MAX)", x.seed(MAX), 0);
        due("seed(-1)", x.seed(-1), BAD);
        due("seed(MIN)", x.seed(MIN), BAD);
        due("seed(3)", x.seed(3), MAX);
    }

    private static void at() {
        DayBelt x = new DayBelt();
        for (int n = 0; n < 14; n++) {
            for (int floor = 0; floor < 3; floor++) {
                due("up", x.at(floor, 0, n), Math.floorMod(floor - n, 6));
                due("down", x.at(floor, 1, n), Math.floorMod(5 - floor - n, 6));
            }
        }
        due("n 999", x.at(0, 0, 999), 3);
        due("n 1000", x.at(0, 0, 1000), BAD);
        due("n -1", x.at(0, 0, -1), BAD);
        due("floor 3", x.at(3, 0, 0), BAD);
        due("floor -1", x.at(-1, 0, 0), BAD);
        due("side 2", x.at(0, 2, 0), BAD);
        due("side -1", x.at(0, -1, 0), BAD);
        x.steps(1);
        due("from now on", x.at(0, 0, 1), 4);
        due("nothing is changed", x.count(1), 1);
    }

    private static void place() {
        DayBelt x = new DayBelt();
        due("n 0", x.place(4, 0), 4);
        due("n 2", x.place(4, 2), 0);
        due("n 999", x.place(4, 999), 1);
        due("n 1000", x.place(4, 1000), BAD);
        due("n -1", x.place(4, -1), BAD);
        due("car 6", x.place(6, 0), BAD);
        due("car -1", x.place(-1, 0), BAD);
        x.steps(5);
        due("from now on", x.place(4, 2), 5);
        for (int car = 0; car < 6; car++) {
            due("as car() tells", x.place(car, 0), x.car(car, 1));
        }
    }

    private static void comes() {
        DayBelt x = new DayBelt();
        due("at once", x.comes(0, 0, 0), 0);
        due("the next", x.comes(5, 0, 0), 1);
        due("day 1 must go round", x.comes(1, 0, 0), 5);
        due("on the other side", x.comes(1, 0, 1), 4);
        due("no such day", x.comes(6, 1, 1), NONE);
        due("day 7", x.comes(7, 0, 0), BAD);
        due("day -1", x.comes(-1, 0, 0), BAD);
        due("floor 3", x.comes(0, 3, 0), BAD);
        due("side 2", x.comes(0, 0, 2), BAD);
        x.day(3, 0);
        due("the first of two", x.comes(0, 2, 1), 0);
        x.steps(1);
        due("then the other", x.comes(0, 2, 1), 2);
        x = Belts.block("6;610000000000;p100");
        due("as late as can be", x.comes(1, 0, 0), 11);
    }

    private static void soonest() {
        DayBelt x = Belts.block("3;012345;p300,p100");
        due("there already", x.soonest(0, 0, 0, 0), 0);
        due("by staying", x.soonest(0, 0, 0, 1), 0);
        due("up by car 0", x.soonest(0, 2, 0, 0), 2);
        due("in at once", x.soonest(0, 2, 0, 1), 1);
        due("round by car 5", x.soonest(0, 1, 5, 0), 2);
        due("in by the other side or later: stays first", x.soonest(0, 1, 5, 1), 0);
        due("car 5 turns below: in, out", x.soonest(0, 0, 5, 0), 1);
        due("by staying, then in, out takes two; so in at once", x.soonest(0, 0, 5, 1), 2);
        due("no car of that day", x.soonest(0, 0, 6, 0), NONE);
        due("no move to there", x.soonest(0, 0, 6, 1), NONE);
        x.in(0, 0);
        due("out at once", x.soonest(0, 0, 0, 0), 0);
        due("that one move is out", x.soonest(0, 0, 0, 1), 3);
        due("riding on", x.soonest(0, 1, 0, 0), 1);
        due("by staying in", x.soonest(0, 1, 0, 1), 0);
        due("out, then in car 5", x.soonest(0, 1, 5, 0), 2);
        due("out first", x.soonest(0, 1, 5, 1), 3);
        due("person 2", x.soonest(2, 0, 0, 0), BAD);
        due("person -1", x.soonest(-1, 0, 0, 0), BAD);
        due("floor 3", x.soonest(0, 3, 0, 0), BAD);
        due("day 7", x.soonest(0, 0, 7, 0), BAD);
        due("what 2", x.soonest(0, 0, 0, 2), BAD);
        due("what -1", x.soonest(0, 0, 0, -1), BAD);
        x.rule(0, 1);
        due("whatever LOADS are", x.soonest(1, 2, 0, 0), 2);
        due("nothing is changed", x.of(0, 3), 0);
        due("nothing is changed", x.count(1), 0);
        x = Belts.block("3;012345;p300");
        x.steps(4);
        // car 2 is below, on side 0
        due("from now on", x.soonest(0, 1, 2, 0), 1);
        due("from now on", x.soonest(0, 1, 2, 1), 1);
        due("car 0 comes in two steps", x.soonest(0, 1, 0, 0), 3);
        // cars 0 and 5 are of one day: by staying one step it would only be later
        x = Belts.block("3;611116;p300");
        due("the sooner car", x.soonest(0, 2, 6, 0), 2);
        due("staying is too late", x.soonest(0, 2, 6, 1), 1);
    }

    private static void soonestOfShyOnes() {
        DayBelt x = Belts.block("2;0123;s115,p115,a115,s105,a105,p105");
        // at the top, side 0, is car 1: a step turns out who is shy, on the same floor
        due("shy, at the top", x.soonest(0, 1, 1, 0), 1);
        due("shy, in on side 0", x.soonest(0, 1, 1, 1), 1);
        due("plain, at the top: over, and out", x.soonest(1, 1, 1, 0), 1);
        due("aunt, at the top: over, and out", x.soonest(2, 1, 1, 0), 1);
        // car 0 comes to the top from below: shy ones are out there only behind its second step
        due("shy, one way up", x.soonest(3, 1, 0, 0), 1);
        due("shy is turned out at the top and gets in again", x.soonest(3, 0, 0, 0), 3);
        due("plain rides over the top", x.soonest(5, 0, 0, 0), 3);
        due("aunt rides over the top", x.soonest(4, 0, 0, 0), 3);
        // car 3 is below on side 1: a step takes it to side 0 and turns out aunts and shy ones
        due("aunt is turned out below", x.soonest(4, 1, 3, 0), 2);
        due("aunt does best to wait for it", x.soonest(4, 1, 3, 1), 0);
        due("shy is turned out below", x.soonest(3, 0, 3, 0), 1);
        due("in on side 1", x.soonest(3, 0, 3, 1), 2);
        // riding just ahead of a turn: who is turned out there need not get out, so staying is a way
        x = Belts.block("3;012345;p106,s106,a106");
        rideAll(x, 0, 2);
        due("above, plain: out, in car 5, out", x.soonest(0, 2, 5, 0), 2);
        due("above, shy", x.soonest(1, 2, 5, 0), 2);
        due("above, plain gets out", x.soonest(0, 2, 5, 1), 3);
        due("above, shy stays", x.soonest(1, 2, 5, 1), 0);
        due("above, an aunt gets out", x.soonest(2, 2, 5, 1), 3);
        x = Belts.block("3;012345;p116,s116,a116");
        rideAll(x, 1, 1);
        due("below, plain: out, in car 3, out", x.soonest(0, 0, 3, 0), 2);
        due("below, plain gets out", x.soonest(0, 0, 3, 1), 3);
        due("below, shy stays", x.soonest(1, 0, 3, 1), 0);
        due("below, an aunt stays", x.soonest(2, 0, 3, 1), 0);
    }

    private static void rideAll(DayBelt x, int side, int n) {
        for (int p = 0; p < x.count(0); p++) {
            x.in(p, side);
        }
        x.steps(n);
    }

    private static void never() {
        DayBelt x = Belts.block("3;001122;p306,s306");
        due("a car's day", x.never(0, 0), 0);
        due("its own day, no car's: only where it stands", x.never(0, 6), 6);
        due("shy, a car's day", x.never(1, 2), 0);
        due("nobody's day", x.never(0, 3), 7);
        x.in(0, 0);
        due("its own day is lost in a car", x.never(0, 6), 7);
        due("person 2", x.never(2, 0), BAD);
        due("person -1", x.never(-1, 0), BAD);
        due("day 7", x.never(0, 7), BAD);
        due("day -1", x.never(0, -1), BAD);
    }

    private static void meet() {
        DayBelt x = Belts.block("3;012345;p300,p100,p106,p121");
        due("there already", x.meet(0, 1, 0), 0);
        due("on floor", x.meet(0, 1, 1), 0);
        due("on day", x.meet(0, 1, 2), 0);
        due("by cars 0 and 5, both in one", x.meet(0, 2, 0), 1);
        due("on floor", x.meet(0, 2, 1), 0);
        due("on day", x.meet(0, 2, 2), 5);
        due("alike", x.meet(1, 1, 0), BAD);
        due("person 4", x.meet(4, 0, 0), BAD);
        due("other 4", x.meet(0, 4, 0), BAD);
        due("person -1", x.meet(-1, 0, 0), BAD);
        due("other -1", x.meet(0, -1, 0), BAD);
        due("what 3", x.meet(0, 1, 3), BAD);
        due("what -1", x.meet(0, 1, -1), BAD);
        // one in car 2 on its way to the top, where the other stands on that day
        x = Belts.block("2;3344;p104,p113");
        x.in(0, 0);
        due("behind one step, out", x.meet(0, 1, 0), 1);
        due("on the upper floor", x.meet(0, 1, 1), 1);
        due("on day", x.meet(0, 1, 2), 3);
        due("the other way round", x.meet(1, 0, 0), 1);
        x = Belts.block("2;0123;p100,p110");
        x.in(0, 0);
        x.in(1, 0);
        due("two in cars", x.meet(0, 1, 0), 2);
    }

    private static void heaviest() {
        DayBelt x = Belts.block("3;012345;p300,p300,h320,p610");
        due("the first of empty ones", x.heaviest(0), 0);
        due("nothing", x.heaviest(1), 0);
        x.in(0, 1);
        due("car 5", x.heaviest(0), 5);
        due("three", x.heaviest(1), 3);
        x.in(2, 1);
        due("car 3", x.heaviest(0), 3);
        due("six", x.heaviest(1), 6);
        x.in(3, 0);
        due("of like ones the first", x.heaviest(0), 1);
        x.in(1, 1);
        due("three like ones", x.heaviest(0), 1);
        due("what 2", x.heaviest(2), BAD);
        due("what -1", x.heaviest(-1), BAD);
    }

    private static void changed() {
        DayBelt x = Belts.block("3;012345;p300,p304");
        due("there already: none", x.changed(0, 0, 0, 0), NONE);
        due("there already: how soon", x.changed(0, 0, 0, 1), NONE);
        due("no such day", x.changed(0, 0, 6, 0), NONE);
        due("as soon as can be", x.changed(0, 1, 0, 0), NONE);
        due("car 0 gets day 3", x.changed(0, 1, 3, 0), 3);
        due("how soon", x.changed(0, 1, 3, 1), 1);
        due("car 0 gets day 5", x.changed(0, 2, 5, 0), 5);
        due("how soon", x.changed(0, 2, 5, 1), 2);
        due("car 5 gets day 2", x.changed(0, 0, 2, 0), 205);
        due("how soon", x.changed(0, 0, 2, 1), 1);
        due("days are as they were", x.car(0, 0), 0);
        due("days are as they were", x.car(5, 0), 5);
        x.in(1, 0);
        due("the car it sits in", x.changed(1, 0, 4, 0), 4);
        due("out at once", x.changed(1, 0, 4, 1), 0);
        due("person 2", x.changed(2, 0, 0, 0), BAD);
        due("floor 3", x.changed(0, 3, 0, 0), BAD);
        due("day 7", x.changed(0, 0, 7, 0), BAD);
        due("what 2", x.changed(0, 0, 0, 2), BAD);
        x = Belts.block("6;000000000001;p100");
        due("far cars", x.changed(0, 1, 1, 0), 11);
        x = Belts.block("6;111111111101;p101");
        due("the last two", x.changed(0, 0, 0, 0), 1011);
        due("one step", x.changed(0, 0, 0, 1), 1);
        x = Belts.block("3;500000;p300");
        x.steps(1);
        due("only car 0 is of that day", x.changed(0, 1, 5, 0), 5);
        due("one step", x.changed(0, 1, 5, 1), 1);
    }

    private static void goes() {
        DayBelt x = new DayBelt();
        due("no step", x.goes(0, 100), 1000000);
        due("never stands", x.goes(30, 0), 1000000);
        due("always stands", x.goes(1, 100), 0);
        due("half", x.goes(6, 50), 15625);
        due("half, cut each time", x.goes(8, 50), 3906);
        due("a third", x.goes(3, 33), 300763);
        due("cut each step", x.goes(5, 7), 695688);
        due("30 steps", x.goes(30, 1), cut(30, 1));
        due("n 31", x.goes(31, 0), BAD);
        due("n -1", x.goes(-1, 0), BAD);
        due("s 101", x.goes(1, 101), BAD);
        due("s -1", x.goes(1, -1), BAD);
    }

    private static long cut(int n, int s) {
        return n == 0 ? 1000000 : cut(n - 1, s) * (100 - s) / 100;
    }

    private static void image() {
        DayBelt x = Belts.block("2;0123;p100");
        x.type('2');
        x.sheet(0, 1, 3);
        due("image()", x.image(), 1);
        x.type(';');
        x.steps(1);
        due("another one in its place", x.image(), 1);
        x.steps(5);
        x.sheet(1, 0, 7);
        x.restore();
        due("the latest counts", x.count(1), 1);
        due("the tape is not kept", x.type('x'), 3);
        due("sheets are not kept", x.drop(1), 7);
        due("sheets are not kept", x.drop(0), 3);
    }

    private static void restore() {
        DayBelt x = Belts.block("2;0123;s100,p111");
        due("none", x.restore(), NONE);
        x.rule(0, 15);
        x.rule(1, 3);
        x.seed(44);
        x.day(2, 6);
        x.in(0, 0);
        x.steps(3);
        x.image();
        int[] counts = new int[9];
        for (int what = 0; what < 9; what++) {
            counts[what] = x.count(what);
        }
        x.rule(0, 16);
        x.rule(1, 4);
        x.seed(45);
        x.person(0, 9, 0, 0);
        Belts.take(x, "6;000000000000;h900,h900,h900");
        x.steps(9);
        for (int times = 0; times < 2; times++) {
            due("restore()", x.restore(), 1);
            for (int what = 0; what < 9; what++) {
                due("count(" + what + ")", x.count(what), counts[what]);
            }
            due("THE DRAW", x.seed(1), 44);
            due("days of cars", x.car(2, 0), 6);
            due("kind", x.of(0, 0), SHY);
            due("turned out", x.of(0, 2), 1);
            due("undo", x.undo(), 3);
            due("undo", x.undo(), 2);
            due("where it was", x.of(0, 3), 0);
            due("undo", x.undo(), 1);
            due("undo", x.undo(), 0);
            due("undo", x.undo(), NONE);
            due("THE DRAW", x.seed(1), 44);
        }
    }

    private static void row(DayBelt x, int lane, long... items) {
        x.sheet(0, lane, items.length);
        for (int k = 0; k < items.length; k++) {
            due("item", x.item(0, lane, k, items[k]), 1);
        }
    }

    private static void weighed() {
        DayBelt x = new DayBelt();
        row(x, 2, 0, 0, 1);
        due("nobody, nothing", x.weighed(0, 2, 0, 2, 0), 1);
        due("nobody, nothing", x.weighed(0, 2, 0, 2, 1), 0);
        due("nobody, something", x.weighed(0, 2, 0, 3, 0), 0);
        due("nobody, something", x.weighed(0, 2, 0, 3, 1), NONE);
        x = Belts.block("3;012345;p100,p100,p200,h100,p300,p400");
        // 1, 1, 2, 2, 3, 4
        row(x, 1, 2, 2, 0, 1, 999, 13, 3, 3, 3, 3);
        due("2: of ones, or of one of two twos", x.weighed(0, 1, 0, 1, 0), 3);
        due("the least set", x.weighed(0, 1, 0, 1, 1), 3);
        due("2 and 2", x.weighed(0, 1, 0, 2, 0), 6);
        due("the least set: ones and the first two", x.weighed(0, 1, 0, 2, 1), 7);
        due("2 and 0", x.weighed(0, 1, 1, 2, 0), 3);
        due("1", x.weighed(0, 1, 3, 1, 0), 2);
        due("1", x.weighed(0, 1, 3, 1, 1), 1);
        due("too much", x.weighed(0, 1, 3, 2, 0), 0);
        due("too much", x.weighed(0, 1, 3, 2, 1), NONE);
        due("all", x.weighed(0, 1, 5, 1, 0), 1);
        due("all", x.weighed(0, 1, 5, 1, 1), 63);
        due("3, three times", x.weighed(0, 1, 6, 3, 0), 12);
        due("3, four times", x.weighed(0, 1, 6, 4, 0), 0);
        x.in(0, 0);
        x.steps(1);
        due("wherever they are", x.weighed(0, 1, 0, 2, 0), 6);
        x = Belts.block("3;012345;p100,p100,p100,p100,p100,p100");
        row(x, 0, 1, 1, 1, 1);
        due("6 by 5 by 4 by 3", x.weighed(0, 0, 0, 4, 0), 360);
        due("the first four", x.weighed(0, 0, 0, 4, 1), 15);
    }

    private static void weighedRefused() {
        DayBelt x = Belts.block("3;012345;p100");
        due("a missing sheet", x.weighed(1, 0, 0, 1, 0), NULL);
        row(x, 3, 0, 999, 1000, -1, 1L << 32, 1);
        due("sheet 4", x.weighed(4, 3, 0, 1, 0), BAD);
        due("sheet -1", x.weighed(-1, 3, 0, 1, 0), BAD);
        due("lane 4", x.weighed(0, 4, 0, 1, 0), BAD);
        due("lane -1", x.weighed(0, -1, 0, 1, 0), BAD);
        due("n 0", x.weighed(0, 3, 0, 0, 0), BAD);
        due("n 5", x.weighed(0, 3, 0, 5, 0), BAD);
        due("what 2", x.weighed(0, 3, 0, 1, 2), BAD);
        due("a bad what of a missing sheet", x.weighed(1, 3, 0, 1, 2), BAD);
        due("another lane", x.weighed(0, 2, 0, 1, 0), CAST);
        due("another lane, no such item", x.weighed(0, 2, 9, 1, 0), CAST);
        due("item -1", x.weighed(0, 3, -1, 1, 0), INDEX);
        due("item 6", x.weighed(0, 3, 6, 1, 0), INDEX);
        due("item 5 and one more", x.weighed(0, 3, 5, 2, 0), INDEX);
        due("far off", x.weighed(0, 3, MAX, 4, 0), INDEX);
        due("far off", x.weighed(0, 3, MIN, 4, 0), INDEX);
        due("999", x.weighed(0, 3, 1, 1, 0), 0);
        due("1000", x.weighed(0, 3, 2, 1, 0), NOT);
        due("1000 behind others", x.weighed(0, 3, 0, 3, 1), NOT);
        due("-1", x.weighed(0, 3, 3, 1, 0), NOT);
        due("a long one", x.weighed(0, 3, 4, 1, 0), NOT);
        due("the last", x.weighed(0, 3, 5, 1, 0), 1);
    }

    private static void film() {
        DayBelt x = Belts.block("2;0123;s300,p400,k511,a600");
        x.in(0, 0);
        x.in(1, 0);
        x.in(2, 1);
        x.in(3, 1);
        // car 0: the shy one and the plain one; car 2 (at the top, side 1): the porter; car 3: the aunt
        x.sheet(0, 0, 6);
        due("film", x.film(1, 1, 4, 0, 0, 1), 4);
        // car 1, car 0 (the shy one out), car 3 (the aunt out below behind step 1), car 2
        int[] loads = {0, 0, 4, 0, 10, 0};
        for (int k = 0; k < 6; k++) {
            int ways = loads[k] > 0 ? 1 : 0;
            due("item " + k, x.weighed(0, 0, k, 1, 0), loads[k] == 10 ? 2 : 1);
            due("who makes item " + k, x.weighed(0, 0, k, 1, 1), loads[k] == 10 ? 4 : ways * 2);
        }
        due("nothing is changed", x.count(1), 0);
        due("nothing is changed", x.count(6), 15);
        due("nothing is changed", x.count(5), 4);
        due("floor 2", x.film(2, 1, 4, 0, 0, 1), BAD);
        due("floor -1", x.film(-1, 1, 4, 0, 0, 1), BAD);
        due("side 2", x.film(1, 2, 4, 0, 0, 1), BAD);
        due("n 0", x.film(1, 1, 0, 0, 0, 1), BAD);
        due("n 25", x.film(1, 1, 25, 0, 0, 1), BAD);
        due("sheet 4", x.film(1, 1, 4, 4, 0, 1), BAD);
        due("lane 4", x.film(1, 1, 4, 0, 4, 1), BAD);
        due("lane -1", x.film(1, 1, 4, 0, -1, 1), BAD);
        due("a missing sheet", x.film(1, 1, 4, 1, 0, 1), NULL);
        due("another lane", x.film(1, 1, 4, 0, 1, 9), CAST);
        due("item 3 to 6", x.film(1, 1, 4, 0, 0, 3), INDEX);
        due("item -1", x.film(1, 1, 4, 0, 0, -1), INDEX);
        due("far off", x.film(1, 1, 4, 0, 0, MAX), INDEX);
        due("a refused film changes nothing", x.weighed(0, 0, 3, 1, 1), 0);
        x.sheet(0, 3, 24);
        due("24 of them", x.film(0, 0, 24, 0, 3, 0), 24);
        due("one of them", x.film(0, 0, 1, 0, 3, 23), 1);
    }

    private static void sheet() {
        DayBelt x = new DayBelt();
        due("sheet 4", x.sheet(4, 0, 1), BAD);
        due("sheet -1", x.sheet(-1, 0, 1), BAD);
        due("lane 4", x.sheet(0, 4, 1), BAD);
        due("lane -1", x.sheet(0, -1, 1), BAD);
        due("n 25", x.sheet(0, 0, 25), BAD);
        due("n MAX", x.sheet(0, 0, MAX), BAD);
        due("n -1", x.sheet(0, 0, -1), SIZE);
        due("n -1 of a bad lane", x.sheet(0, 4, -1), BAD);
        due("n MIN", x.sheet(0, 0, MIN), SIZE);
        due("still missing", x.drop(0), NULL);
        due("n 0", x.sheet(0, 0, 0), 0);
        due("no item", x.item(0, 0, 0, 1), INDEX);
        due("n 24", x.sheet(0, 3, 24), 24);
        due("item 23", x.item(0, 3, 23, 5), 1);
        due("item 0", x.item(0, 3, 0, 5), 1);
        due("a new row", x.sheet(0, 3, 24), 24);
        due("of zeros", x.weighed(0, 3, 23, 1, 0), 1);
        due("of zeros", x.weighed(0, 3, 0, 1, 0), 1);
        due("a refused one", x.sheet(0, 0, -5), SIZE);
        due("leaves the old one", x.drop(0), 24);
    }

    private static void drop() {
        DayBelt x = new DayBelt();
        due("sheet 4", x.drop(4), BAD);
        due("sheet -1", x.drop(-1), BAD);
        due("missing", x.drop(3), NULL);
        x.sheet(3, 2, 11);
        due("had", x.drop(3), 11);
        due("missing again", x.drop(3), NULL);
        due("no item in it", x.item(3, 2, 0, 1), NULL);
        x.sheet(3, 2, 0);
        due("had none", x.drop(3), 0);
    }

    private static void item() {
        DayBelt x = Belts.block("3;012345;p700");
        due("sheet 4", x.item(4, 0, 0, 1), BAD);
        due("sheet -1", x.item(-1, 0, 0, 1), BAD);
        due("lane 4", x.item(0, 4, 0, 1), BAD);
        due("lane -1", x.item(0, -1, 0, 1), BAD);
        due("missing", x.item(0, 0, 99, 1), NULL);
        long[] sevens = {7 + (1L << 8), 7 + (1L << 16), 7 + (1L << 32), 7};
        long[] others = {7 + (1L << 7), 7 + (1L << 15), 7 + (1L << 31), 7 + (1L << 63)};
        for (int lane = 0; lane < 4; lane++) {
            x.sheet(0, lane, 2);
            due("another lane", x.item(0, (lane + 1) % 4, 9, 1), CAST);
            due("item 2", x.item(0, lane, 2, 1), INDEX);
            due("item -1", x.item(0, lane, -1, 1), INDEX);
            due("item MAX", x.item(0, lane, MAX, 1), INDEX);
            due("item 0", x.item(0, lane, 0, sevens[lane]), 1);
            due("item 1", x.item(0, lane, 1, others[lane]), 1);
            due("the lowest bits", x.weighed(0, lane, 0, 1, 1), 1);
            due("the highest of these is a sign", x.weighed(0, lane, 1, 1, 1), NOT);
        }
    }

    private static void copy() {
        DayBelt x = Belts.block("3;012345;p100,p200,p400");
        due("from 4", x.copy(4, 0, 0, 0, 0), BAD);
        due("to 4", x.copy(0, 0, 4, 0, 0), BAD);
        due("from -1", x.copy(-1, 0, 0, 0, 0), BAD);
        due("to -1", x.copy(0, 0, -1, 0, 0), BAD);
        due("both missing", x.copy(0, 0, 1, 0, 0), NULL);
        x.sheet(1, 1, 4);
        due("from is missing", x.copy(0, 0, 1, 0, 0), NULL);
        due("to is missing", x.copy(1, 0, 0, 0, 9), NULL);
        row(x, 2, 1, 2, 4, 0);
        due("unlike lanes", x.copy(0, 0, 1, 0, 9), CAST);
        x.sheet(1, 2, 3);
        due("too many from", x.copy(0, 2, 1, 0, 3), INDEX);
        due("too many to", x.copy(0, 0, 1, 2, 2), INDEX);
        due("i -1", x.copy(0, -1, 1, 0, 1), INDEX);
        due("j -1", x.copy(0, 0, 1, -1, 1), INDEX);
        due("n -1", x.copy(0, 1, 1, 1, -1), INDEX);
        due("n MIN", x.copy(0, 0, 1, 0, MIN), INDEX);
        due("far off", x.copy(0, MAX, 1, MAX, MAX), INDEX);
        due("none, at the ends", x.copy(0, 4, 1, 3, 0), 0);
        due("none, beyond the end", x.copy(0, 5, 1, 3, 0), INDEX);
        due("two", x.copy(0, 1, 1, 0, 2), 2);
        due("the first of them", x.weighed(1, 2, 0, 1, 1), 2);
        due("the second of them", x.weighed(1, 2, 1, 1, 1), 4);
        due("what stays", x.weighed(1, 2, 2, 1, 1), 0);
        due("within one, upwards", x.copy(0, 0, 0, 1, 3), 3);
        int[] up = {1, 1, 2, 4};
        for (int k = 0; k < 4; k++) {
            due("item " + k, x.weighed(0, 2, k, 1, 1), up[k]);
        }
        due("within one, downwards", x.copy(0, 1, 0, 0, 3), 3);
        int[] down = {1, 2, 4, 4};
        for (int k = 0; k < 4; k++) {
            due("item " + k, x.weighed(0, 2, k, 1, 1), down[k]);
        }
    }
}
