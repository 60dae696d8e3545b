/**
 * Runs of 512 calls on one object, as many as the document allows, for each promise by itself: its call is made over and
 * over between others that bear on it, and is the 512th, too. The plain model tells what is due.
 */
public final class LongRunsTest {
    private static final int MOST_STEPS = 9999;
    private static final String SIX = "6;012345601234;p300,s411,h252,k953,a145,p226";
    private static final String SIX_LOW = "3;012345;p300,s411,h222,k903,a104,p216";
    /** By these five the least set that weighs as much as an item of 0 .. 31 is the item. */
    private static final String SCALES = "2;0123;p100,p210,p401,p813,h805";
    private static final char TAKE = '\n', ACT = '\t', UNDO = '\r';

    /** Makes one call, the k-th of a run's turns. */
    interface Turn {
        void call(int k);
    }

    private LongRunsTest() {
    }

    public static void main(String[] args) {
        Check.each(LongRunsTest.class);
        Check.end();
    }

    private static Pair begin(String text) {
        Pair p = new Pair();
        p.take(text);
        return p;
    }

    private static void run(Pair p, Turn turn, Runnable last) {
        for (int k = 0; p.left() > 1 && p.isAlike(); k++) {
            turn.call(k);
        }
        last.run();
        Check.that("the run has 512 calls", p.left() == 0);
    }

    /** One call that may be undone, or is refused. */
    private static void act(Pair p, int k) {
        switch (k % 7) {
            case 0, 3 -> p.in(k / 7 % 6, k % 2);
            case 1 -> p.steps(1);
            case 2 -> p.drift(2);
            case 4 -> p.steps(1 + k % 4);
            case 5 -> p.out(k / 5 % 6);
            default -> p.drift(1);
        }
    }

    static void promise01_new_AsNewBehindAllThatIsRefused() {
        Pair p = new Pair();
        run(p, k -> {
            if (p.left() <= 48) {
                asNew(p, k);
            } else if (k % 2 == 0) {
                refusedOfPeople(p, k / 2);
            } else {
                refusedOfSheets(p, k / 2);
            }
        }, () -> p.count(8));
    }

    private static void asNew(Pair p, int k) {
        if (k % 4 == 0) {
            p.count(k / 4 % 9);
        } else {
            p.car(k % 6, k / 6 % 6);
        }
    }

    private static void refusedOfPeople(Pair p, int k) {
        switch (k % 16) {
            case 0 -> p.person(5, 1, 0, 0);
            case 1 -> p.person(0, 10, 0, 0);
            case 2 -> p.of(0, k % 6);
            case 3 -> p.car(6, k % 6);
            case 4 -> p.day(6, 0);
            case 5 -> p.rule(0, 61);
            case 6 -> p.rule(1, 1);
            case 7 -> p.type(31);
            case 8 -> p.block();
            case 9 -> p.in(0, 0);
            case 10 -> p.out(0);
            case 11 -> p.steps(61);
            case 12 -> p.drift(0);
            case 13 -> p.undo();
            case 14 -> p.seed(-1);
            default -> p.restore();
        }
    }

    private static void refusedOfSheets(Pair p, int k) {
        switch (k % 15) {
            case 0 -> p.at(3, 0, 0);
            case 1 -> p.place(0, 1000);
            case 2 -> p.comes(7, 0, 0);
            case 3 -> p.soonest(0, 0, 0, 0);
            case 4 -> p.never(0, 0);
            case 5 -> p.meet(0, 1, 0);
            case 6 -> p.heaviest(2);
            case 7 -> p.changed(0, 0, 0, 0);
            case 8 -> p.goes(31, 0);
            case 9 -> p.weighed(k % 4, 0, 0, 1, 0);
            case 10 -> p.film(0, 0, 1, k % 4, 0, 0);
            case 11 -> p.sheet(k % 4, 0, -1);
            case 12 -> p.drop(k % 4);
            case 13 -> p.item(k % 4, 0, 0, 1);
            default -> p.copy(k % 4, 0, 0, 0, 1);
        }
    }

    /** Those ahead of a block rode and had lunch; who comes behind it has nothing of that, and nothing is undone. */
    static void promise02_person_SixMoreBehindEachBlock() {
        String text = "2;0123;p100" + TAKE;
        for (int start = 0; start < 40; start += 6) {
            int begin = start;
            Pair p = new Pair();
            p.rule(1, 2);
            run(p, k -> {
                int turn = (k + begin) % 40;
                if (turn < text.length()) {
                    typeOn(p, text.charAt(turn), k);
                } else if (turn < 26) {
                    comeActAndUndo(p, turn - text.length(), k);
                } else if (turn < 32) {
                    p.of(turn - 26, k % 4 + 2);
                } else {
                    act(p, k);
                }
            }, () -> p.person(3, 9, 1, 6));
        }
    }

    private static void comeActAndUndo(Pair p, int turn, int k) {
        switch (turn) {
            case 2, 5 -> p.in(turn / 2, 0);
            case 3, 6 -> p.steps(2);
            case 8, 13 -> p.undo();
            default -> p.person(k % 5, 1 + k % 9, k % 2, k % 7);
        }
    }

    private static void typeOn(Pair p, char letter, int k) {
        switch (letter) {
            case TAKE -> p.block();
            case ACT -> act(p, k);
            case UNDO -> p.undo();
            default -> p.type(letter);
        }
    }

    static void promise03_of_AllOfEachWhileTheyRide() {
        Pair p = begin(SIX);
        p.rule(1, 2);
        run(p, k -> {
            if (k % 4 == 0) {
                act(p, k / 4);
            } else {
                p.of(k % 6, k / 6 % 6);
            }
        }, () -> p.of(5, 5));
    }

    static void promise04_car_AllOfEachWhileTheyRide() {
        Pair p = begin(SIX);
        p.rule(0, 60);
        run(p, k -> {
            if (k % 4 == 0) {
                act(p, k / 4);
            } else {
                p.car(k % 12, k / 12 % 6);
            }
        }, () -> p.car(11, 5));
    }

    static void promise05_day_OverAndOver() {
        Pair p = begin(SIX);
        run(p, k -> {
            switch (k % 6) {
                case 0, 3 -> p.day(k / 3 % 12, k / 2 % 7);
                case 1 -> act(p, k / 6);
                case 2 -> p.of(k / 6 % 6, 4);
                case 4 -> p.car(k / 6 % 12, 0);
                default -> undoAtTimes(p, k / 6);
            }
        }, () -> p.day(11, 6));
    }

    private static void undoAtTimes(Pair p, int k) {
        if (k % 3 == 0) {
            p.undo();
        } else {
            p.of(k % 6, 4);
        }
    }

    static void promise06_rule_EachLimitAndNoon() {
        Pair p = begin(SIX_LOW);
        run(p, k -> {
            switch (k % 6) {
                case 0 -> p.rule(0, k / 6 % 62);
                case 1 -> p.in(k / 6 % 6, k / 36 % 2);
                case 2 -> p.rule(1, 1 + k / 6 % 25);
                case 3 -> p.steps(1 + k / 6 % 7);
                case 4 -> p.out(k / 12 % 6);
                default -> p.count(3 + k / 6 % 6);
            }
        }, () -> p.rule(1, 24));
    }

    static void promise07_type_TheTapeIsFilledAgain() {
        StringBuilder text = new StringBuilder("2;0123;p100,s211,h302,k413,a504,p615");
        while (text.length() < 60) {
            text.insert(text.length() / 2, ' ');
        }
        for (int turns : new int[] {61, 62, 63, 64}) {
            Pair p = new Pair();
            run(p, k -> {
                int turn = k % turns;
                if (turn == turns - 1) {
                    p.block();
                } else {
                    p.type(turn < 60 ? text.charAt(turn) : turn == 61 ? 127 : ' ');
                }
            }, () -> p.type('~'));
        }
    }

    /** Some are blocks, others have faults; one run ends with each of them. Behind a block nothing is undone. */
    static void promise08_block_OneBehindAnother() {
        String texts = "2;0123;p100\n\r\t\t3;654321;s921,a116\n\r\t\t2;0123;p12\n\r\t 4 ;01234560;k131 \n\r;\n"
            + "5;0123456012;h545,p103\n\t\t\t3;012345;p130\n\r\n6;012345601234;p155,s144,h133,k122,a111,p100\n\r\t\t\t"
            + "2;0123;p100,\n\r\t\t";
        for (int end = texts.indexOf(TAKE); end >= 0; end = texts.indexOf(TAKE, end + 1)) {
            int start = Math.floorMod(end - (Pair.CALLS - 1), texts.length());
            Pair p = new Pair();
            run(p, k -> typeOn(p, texts.charAt((start + k) % texts.length()), k), p::block);
        }
    }

    static void promise09_count_AllWhileTheyRide() {
        Pair p = begin(SIX_LOW);
        p.rule(1, 3);
        run(p, k -> {
            if (k % 5 == 0) {
                act(p, k / 5);
            } else {
                p.count(k % 9);
            }
        }, () -> p.count(7));
    }

    static void promise10_in_OverAndOver() {
        Pair p = begin(SIX);
        run(p, k -> {
            switch (k % 5) {
                case 0, 1, 3 -> p.in((k + k / 5) % 6, k % 2);
                case 2 -> p.steps(1 + k / 5 % 3);
                default -> p.out(k / 5 % 6);
            }
        }, () -> p.in(0, 1));
    }

    static void promise11_out_OverAndOver() {
        Pair p = begin(SIX);
        p.rule(0, 60);
        run(p, k -> {
            switch (k % 5) {
                case 0, 3 -> p.out((k + k / 5) % 6);
                case 1 -> p.in(k / 5 % 6, k % 2);
                case 2 -> p.steps(1 + k / 5 % 7);
                default -> p.of(k / 4 % 6, 2 + k / 5 % 3);
            }
        }, () -> p.out(3));
    }

    static void promise12_steps_To9999AndOn() {
        Pair p = begin(SIX_LOW);
        p.in(0, 0);
        p.in(3, 1);
        run(p, k -> {
            int room = MOST_STEPS - p.stepsDone();
            if (room >= 60) {
                getInOrGoOn(p, k);
                return;
            }
            switch (k % 6) {
                case 0 -> p.steps(room + 1);
                case 1 -> p.steps(Math.max(1, room));
                case 2, 4 -> p.undo();
                case 3 -> act(p, k / 6);
                default -> p.of(k / 6 % 6, 2 + k / 6 % 4);
            }
        }, () -> p.steps(1));
    }

    /** Now and then one gets in or out, so that not always the same ones are in cars. */
    private static void getInOrGoOn(Pair p, int k) {
        switch (k % 8) {
            case 0 -> p.in(k / 8 % 6, k / 48 % 2);
            case 4 -> p.out(k / 16 % 6);
            default -> p.steps(60);
        }
    }

    static void promise13_drift_To9999AndOn() {
        Pair p = begin("3;012345;p100,p110,h120,k100,p110,p120");
        for (int one = 0; one < 6; one++) {
            p.in(one, one % 2);
        }
        run(p, k -> {
            int room = MOST_STEPS - p.stepsDone();
            if (room >= 60) {
                p.drift(60);
                return;
            }
            switch (k % 5) {
                case 0 -> p.drift(room + 1);
                case 1 -> p.drift(Math.max(1, room));
                case 2 -> p.drift(1);
                case 3 -> p.undo();
                default -> p.count(1);
            }
        }, () -> p.drift(1));
    }

    /** As many as are done are undone again, until none is known; more each time. */
    static void promise14_undo_UntilNoneIsKnown() {
        Pair p = begin(SIX_LOW);
        p.rule(1, 2);
        int[] toDo = {1};
        int[] done = {0};
        run(p, k -> {
            if (done[0] < toDo[0]) {
                act(p, k);
                done[0]++;
            } else if (k % 2 == 0) {
                p.of(k / 2 % 6, 2 + k % 4);
            } else if (p.undo() == DayBelt.NONE) {
                toDo[0] = toDo[0] % 20 + 1;
                done[0] = 0;
            }
        }, p::undo);
    }

    static void promise14_undo_EachIsSeenAsItWas() {
        Pair p = begin(SIX_LOW);
        run(p, k -> {
            switch (k % 8) {
                case 0, 1, 2 -> act(p, k + k / 8);
                case 3, 6 -> p.undo();
                case 4 -> p.seed(k);
                case 5 -> p.count(6);
                default -> p.of(k / 8 % 6, 2 + k / 48 % 4);
            }
        }, p::undo);
    }

    static void promise15_seed_OverAndOver() {
        Pair p = begin(SIX);
        p.in(0, 0);
        p.in(3, 0);
        run(p, k -> {
            switch (k % 4) {
                case 0 -> p.seed(k * 48271 & Integer.MAX_VALUE);
                case 1 -> p.drift(1 + k / 4 % 9);
                case 2 -> p.seed(Integer.MAX_VALUE - k);
                default -> p.undo();
            }
        }, () -> p.seed(0));
    }

    static void promise16_at_WhileTheBeltGoesOn() {
        Pair p = begin(SIX);
        run(p, k -> {
            if (k % 4 == 0) {
                p.steps(1 + k % 60);
            } else {
                p.at(k / 2 % 6, k / 3 % 2, k * 37 % 1000);
            }
        }, () -> p.at(5, 1, 999));
    }

    static void promise17_place_WhileTheBeltGoesOn() {
        Pair p = begin("5;0123456012;p100");
        run(p, k -> {
            if (k % 4 == 0) {
                p.steps(1 + k % 60);
            } else {
                p.place(k % 10, k * 37 % 1000);
            }
        }, () -> p.place(9, 999));
    }

    static void promise18_comes_WhileDaysAreTold() {
        Pair p = begin(SIX);
        run(p, k -> {
            switch (k % 4) {
                case 0 -> p.day(k / 4 % 12, k / 48 % 3 + k % 5);
                case 1 -> p.steps(1 + k % 11);
                default -> p.comes(k / 4 % 7, k / 2 % 6, k % 2);
            }
        }, () -> p.comes(6, 5, 1));
    }

    static void promise19_soonest_WhileTheyRide() {
        Pair p = begin(SIX_LOW);
        run(p, k -> {
            if (k % 3 == 0) {
                act(p, k / 3);
            } else {
                p.soonest(k / 3 % 6, k % 3, k / 2 % 7, k % 2);
            }
        }, () -> p.soonest(1, 2, 5, 1));
    }

    static void promise20_never_WhileDaysAreTold() {
        Pair p = begin(SIX_LOW);
        run(p, k -> {
            switch (k % 4) {
                case 0 -> act(p, k / 4);
                case 1 -> p.day(k / 4 % 6, k / 24 % 7);
                default -> p.never(k / 4 % 6, k / 2 % 7);
            }
        }, () -> p.never(4, 6));
    }

    static void promise21_meet_WhileTheyRide() {
        Pair p = begin(SIX_LOW);
        run(p, k -> {
            if (k % 3 == 0) {
                act(p, k / 3);
            } else {
                p.meet(k / 3 % 6, (k / 3 + k / 18 % 5 + 1) % 6, k % 4 % 3);
            }
        }, () -> p.meet(5, 0, 2));
    }

    static void promise22_heaviest_WhileTheyRide() {
        Pair p = begin(SIX_LOW);
        p.rule(0, 60);
        run(p, k -> {
            if (k % 3 == 0) {
                act(p, k / 3);
            } else {
                p.heaviest(k % 2);
            }
        }, () -> p.heaviest(1));
    }

    static void promise23_changed_WhileTheyRide() {
        Pair p = begin(SIX_LOW);
        run(p, k -> {
            switch (k % 4) {
                case 0, 1 -> act(p, k / 4);
                case 2 -> p.day(k / 4 % 6, k / 8 % 7);
                default -> p.changed(k / 4 % 6, k / 4 % 3, k / 3 % 7, k / 4 % 2);
            }
        }, () -> p.changed(0, 2, 4, 0));
    }

    /** All that may be asked, by 512 of them on each object. */
    static void promise24_goes_AllOfThem() {
        int all = 31 * 101;
        for (int first = 0; first < all; first += Pair.CALLS) {
            int begin = first;
            Pair p = new Pair();
            run(p, k -> p.goes((begin + k) % all / 101, (begin + k) % 101), () -> p.goes(30, 1));
        }
    }

    static void promise25_image_AnotherInPlaceOfTheLast() {
        Pair p = begin(SIX_LOW);
        run(p, k -> {
            switch (k % 9) {
                case 0 -> p.image();
                case 1, 2, 3 -> act(p, k + k / 9);
                case 4 -> tell(p, k / 9);
                case 5 -> p.restore();
                case 6 -> undoAtTimes(p, k / 9);
                case 7 -> p.of(k / 9 % 6, k / 54 % 6);
                default -> p.count(k / 9 % 9);
            }
        }, p::image);
    }

    private static void tell(Pair p, int k) {
        switch (k % 4) {
            case 0 -> p.day(k % 6, k / 4 % 7);
            case 1 -> p.rule(0, 10 + k % 50);
            case 2 -> p.rule(1, 2 + k % 23);
            default -> p.seed(k);
        }
    }

    /** One image, and it is as it was then each time, whatever was done, another block taken, too. */
    static void promise26_restore_TheSameOverAndOver() {
        String text = "2;6543;a913" + TAKE;
        Pair p = begin(SIX_LOW);
        for (int k = 0; k < 9; k++) {
            act(p, k);
        }
        p.image();
        run(p, k -> {
            int turn = k % 28;
            if (turn < text.length()) {
                typeOn(p, text.charAt(turn), k);
            } else if (turn < 15) {
                act(p, k);
            } else if (turn == 15 || turn == 24) {
                p.restore();
            } else if (turn < 20) {
                p.of(k % 6, k / 28 % 6);
            } else if (turn < 24) {
                tell(p, k);
            } else {
                undoAtTimes(p, k);
            }
        }, p::restore);
    }

    static void promise27_weighed_OtherLoadsOverAndOver() {
        Pair p = begin(SCALES);
        p.person(1, 9, 0, 0);
        p.sheet(1, 2, 6);
        run(p, k -> {
            if (k % 3 == 0) {
                p.item(1, 2, k / 3 % 6, k * 7 % 23 - (k % 50 == 0 ? 23 : 0));
            } else {
                p.weighed(1, 2, k / 3 % 4, 1 + k % 4, k / 2 % 2);
            }
        }, () -> p.weighed(1, 2, 0, 4, 0));
    }

    static void promise28_film_WhileTheyRide() {
        Pair p = begin(SCALES);
        p.sheet(0, 0, 24);
        p.sheet(1, 3, 20);
        run(p, k -> {
            switch (k % 6) {
                case 0 -> act(p, k / 6);
                case 1 -> p.film(k / 6 % 2, k / 12 % 2, 1 + k % 24, 0, 0, k / 24 % 6);
                case 3 -> p.film(k / 6 % 2, k / 12 % 2, 1 + k % 16, 1, 3, k / 24 % 5);
                default -> p.weighed(k / 12 % 2, k / 12 % 2 * 3, k % 24, 1, 1);
            }
        }, () -> p.film(1, 0, 20, 1, 3, 0));
    }

    static void promise29_sheet_ANewRowOverAndOver() {
        Pair p = begin(SCALES);
        run(p, k -> {
            int sheet = k / 4 % 4;
            int lane = k / 16 % 4;
            switch (k % 4) {
                case 0 -> p.sheet(sheet, lane, k / 4 % 25);
                case 1 -> p.item(sheet, lane, k / 4 % 25 - 1, 1 + k % 30);
                case 2 -> p.weighed(sheet, lane, k / 4 % 25 - 1, 1, 1);
                default -> p.weighed(sheet, lane, k / 8 % 12, 1, 1);
            }
        }, () -> p.sheet(3, 3, 24));
    }

    static void promise30_drop_AndANewOne() {
        Pair p = begin(SCALES);
        run(p, k -> {
            switch (k % 5) {
                case 0 -> p.sheet(k / 5 % 4, k / 20 % 4, k / 5 % 25);
                case 1 -> p.item(k / 5 % 4, k / 20 % 4, 0, k / 5 % 32);
                case 2 -> p.weighed(k / 5 % 4, k / 20 % 4, 0, 1, 1);
                case 3 -> p.drop(k / 7 % 4);
                default -> p.weighed(k / 7 % 4, k / 20 % 4, 0, 1, 1);
            }
        }, () -> p.drop(2));
    }

    static void promise31_item_EachOverAndOver() {
        Pair p = begin(SCALES);
        for (int lane = 0; lane < 4; lane++) {
            p.sheet(lane, lane, 24);
        }
        long[] far = {0, 1L << 8, -1L << 16, 1L << 32, Long.MIN_VALUE};
        run(p, k -> {
            int lane = k / 48 % 4;
            if (k % 2 == 0) {
                p.item(lane, lane, k / 2 % 25, k / 2 % 32 + far[k / 2 % 5]);
            } else {
                p.weighed(lane, lane, k / 2 % 25, 1, 1);
            }
        }, () -> p.item(3, 3, 23, Long.MAX_VALUE));
    }

    static void promise32_copy_OverAndOver() {
        Pair p = begin(SCALES);
        p.sheet(0, 2, 24);
        p.sheet(1, 2, 9);
        p.sheet(2, 1, 9);
        run(p, k -> {
            int to = k / 5 % 2;
            switch (k % 5) {
                case 0 -> p.item(k / 10 % 2, 2, k / 5 % 9, k / 5 % 32);
                case 1 -> p.copy(k / 10 % 2, k / 5 % 7, to, k / 15 % 6, k / 5 % 8);
                case 2 -> p.copy(k / 7 % 4, k / 5 % 3, to, k / 11 % 20, k / 5 % 5);
                default -> p.weighed(to, 2, k % 24, 1, 1);
            }
        }, () -> p.copy(0, 0, 0, 1, 23));
    }
}
