import java.util.ArrayList;
import java.util.List;

/** Two objects made alike: a call on one of them may leave no trace that the other one has not. */
final class Twins {
    interface Making {
        DayBelt make();
    }

    interface Call {
        int on(DayBelt x);
    }

    interface CallOf {
        int on(DayBelt x, int v);
    }

    private static final int LOOKS = 5;

    private Twins() {
    }

    /** The call answers so, and what can be asked afterwards is as if it had not been made. */
    static void same(String what, Making making, int want, Call call) {
        for (int look = 0; look < LOOKS; look++) {
            DayBelt touched = making.make();
            DayBelt other = making.make();
            Check.due(what, call.on(touched), want);
            alike(what, look(look, touched), look(look, other));
        }
    }

    /** Both ends of a range are taken with these answers; what is just beyond them, or far, is BAD and changes nothing. */
    static void range(String what, Making making, int low, int lowWant, int high, int highWant, CallOf call) {
        Check.due(what + " " + low, call.on(making.make(), low), lowWant);
        Check.due(what + " " + high, call.on(making.make(), high), highWant);
        bad(what, making, low, high, call);
    }

    static void bad(String what, Making making, int low, int high, CallOf call) {
        int[] beyond = {low - 1, high + 1, Integer.MIN_VALUE, Integer.MAX_VALUE};
        for (int v : beyond) {
            same(what + " " + v, making, DayBelt.BAD, x -> call.on(x, v));
        }
    }

    /** Two objects, each with what was called on it, are alike in all that can be asked. */
    static void alike(String what, Making one, Making two) {
        for (int look = 0; look < LOOKS; look++) {
            alike(what, look(look, one.make()), look(look, two.make()));
        }
    }

    private static void alike(String what, List<String> got, List<String> want) {
        for (int k = 0; k < Math.min(got.size(), want.size()); k++) {
            if (!got.get(k).equals(want.get(k))) {
                Check.that(what + " leaves " + got.get(k) + ", not " + want.get(k), false);
                return;
            }
        }
        Check.that(what + " leaves as much to be asked", got.size() == want.size());
    }

    private static List<String> look(int look, DayBelt x) {
        List<String> seen = new ArrayList<>();
        switch (look) {
            case 0: seeNow(x, seen); break;
            case 1: seeUndone(x, seen); break;
            case 2: seeRestored(x, seen); break;
            case 3: seeTape(x, seen); break;
            default: seeSheets(x, seen); break;
        }
        return seen;
    }

    private static void see(List<String> seen, String call, int answer) {
        seen.add(call + " = " + answer);
    }

    private static void seeDraw(DayBelt x, List<String> seen) {
        int draw = x.seed(0);
        x.seed(draw);
        see(seen, "seed", draw);
    }

    private static void seeNow(DayBelt x, List<String> seen) {
        for (int what = 0; what < 9; what++) {
            see(seen, "count(" + what + ")", x.count(what));
        }
        for (int p = 0; p < 6; p++) {
            for (int what = 0; what < 6; what++) {
                see(seen, "of(" + p + ", " + what + ")", x.of(p, what));
            }
        }
        for (int car = 0; car < 13; car++) {
            for (int what = 0; what < 6; what++) {
                see(seen, "car(" + car + ", " + what + ")", x.car(car, what));
            }
        }
        seeDraw(x, seen);
    }

    private static void seeUndone(DayBelt x, List<String> seen) {
        for (int k = 0; k < 9; k++) {
            see(seen, "undo " + k, x.undo());
            see(seen, "undone " + k + ", count(1)", x.count(1));
            for (int p = 0; p < 6; p++) {
                for (int what = 2; what < 6; what++) {
                    see(seen, "undone " + k + ", of(" + p + ", " + what + ")", x.of(p, what));
                }
            }
            seeDraw(x, seen);
        }
    }

    private static void seeRestored(DayBelt x, List<String> seen) {
        see(seen, "restore()", x.restore());
        seeNow(x, seen);
        for (int k = 0; k < 9; k++) {
            see(seen, "restored, undo " + k, x.undo());
            see(seen, "restored, undone " + k + ", count(1)", x.count(1));
            see(seen, "restored, undone " + k + ", count(6)", x.count(6));
            seeDraw(x, seen);
        }
    }

    /** The tapes of {@link Belts} lack these two letters to be a block; other tapes have a fault by them. */
    private static void seeTape(DayBelt x, List<String> seen) {
        see(seen, "type", x.type('0'));
        see(seen, "type", x.type('4'));
        see(seen, "block()", x.block());
        seeNow(x, seen);
    }

    /** By people of weights 1, 2, 4, 8, 16 the least set that weighs as much as an item is the item. */
    private static void seeSheets(DayBelt x, List<String> seen) {
        x.block();
        Belts.take(x, "2;0000;p100,p200,p400,p800,h800");
        for (int sheet = 0; sheet < 4; sheet++) {
            for (int lane = 0; lane < Belts.LANES; lane++) {
                int first = x.weighed(sheet, lane, 0, 1, 1);
                see(seen, "sheet " + sheet + " of lane " + lane, first);
                for (int i = 1; i < 24 && first != DayBelt.CAST && first != DayBelt.NULL; i++) {
                    see(seen, "sheet " + sheet + ", item " + i, x.weighed(sheet, lane, i, 1, 1));
                }
            }
            see(seen, "drop " + sheet, x.drop(sheet));
        }
    }
}
