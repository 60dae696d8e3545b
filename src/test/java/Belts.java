/** Objects to begin a test with; each is made by far fewer than 512 calls. */
final class Belts {
    static final int BAD = DayBelt.BAD, NOT = DayBelt.NOT, FULL = DayBelt.FULL, NONE = DayBelt.NONE;
    static final int NULL = DayBelt.NULL, CAST = DayBelt.CAST, INDEX = DayBelt.INDEX, SIZE = DayBelt.SIZE;
    static final int PLAIN = 0, SHY = 1, HEAVY = 2, PORTER = 3, AUNT = 4;
    static final int LANES = 4, MOST_STEPS = 9999;

    private Belts() {
    }

    static void type(DayBelt x, String text) {
        for (int k = 0; k < text.length(); k++) {
            x.type(text.charAt(k));
        }
    }

    /** Types the text and takes it as a block: what block() answers. */
    static int take(DayBelt x, String text) {
        type(x, text);
        return x.block();
    }

    static DayBelt block(String text) {
        DayBelt x = new DayBelt();
        int people = take(x, text);
        if (people <= 0) {
            Check.that("the text is a block: '" + text + "', answered " + people, false);
        }
        return x;
    }

    /** So many floors, cars of days 0, 1, .. 6, 0, .., and these people. */
    static DayBelt high(int high, String people) {
        StringBuilder text = new StringBuilder();
        text.append(high).append(';');
        for (int car = 0; car < 2 * high; car++) {
            text.append(car % 7);
        }
        return block(text.append(';').append(people).toString());
    }

    static void row(DayBelt x, int sheet, int lane, long... items) {
        x.sheet(sheet, lane, items.length);
        for (int k = 0; k < items.length; k++) {
            x.item(sheet, lane, k, items[k]);
        }
    }

    /** Five people, of whom two ride; an image, eight that may be undone, sheets of unlike lanes, sheet 3 missing. */
    static DayBelt rich() {
        DayBelt x = block("6;012345601234;p300,s411,h252,k953,a145");
        x.rule(0, 30);
        x.rule(1, 5);
        x.seed(77);
        x.in(0, 0);
        x.steps(3);
        x.image();
        x.day(2, 6);
        x.in(3, 1);
        x.steps(2);
        x.in(1, 0);
        x.drift(3);
        x.out(0);
        x.in(4, 1);
        row(x, 0, 0, 1, 2, 4, 8, 16);
        row(x, 1, 3, 3, 5, 1000, -1, 1L << 40, 7);
        row(x, 2, 2, 9, 10, 11);
        return x;
    }

    /** Rich, and the tape holds the beginning of a text. */
    static DayBelt typing() {
        DayBelt x = rich();
        type(x, "2;0123;p1");
        return x;
    }

    /** Six people, all of whom ride. */
    static DayBelt crowded() {
        DayBelt x = block("3;654321;p300,s400,h210,k920,a110,p200");
        x.image();
        for (int p = 0; p < 6; p++) {
            x.in(p, 0);
        }
        row(x, 0, 1, 3, 6, 9);
        type(x, "2;0123;p1");
        return x;
    }

    /** So many steps were done, of people of whom two ride. */
    static DayBelt worn(int steps) {
        DayBelt x = block("3;012345;p100,p210,k320,p400");
        x.in(0, 0);
        x.in(2, 1);
        int left = steps;
        while (left > 0) {
            x.steps(Math.min(left, 60));
            left -= 60;
        }
        return x;
    }
}
