import java.util.function.Supplier;

/** Each argument of each method at both of its bounds, and beside them, where the call is refused and changes nothing. */
final class BoundsTest extends Checks {
    private static final int[] LEAST = {0, 1, 0, 0, 0, 1, 0, 0, 1, 1, 1};
    private static final int[] MOST = {1000, 100, 500, 100, 900, 50000, 50000, 100, 50000, 200, 100000};
    private static final int[] FIRST = {100, 10, 100, 5, 300, 5000, 1000, 5, 5000, 20, 5000};

    /** A call with one argument; the others stay as they are. */
    private interface Call {
        long on(DryIceLane van, int argument);
    }

    public static void main(String[] args) {
        load();
        unloadAndShift();
        set();
        route();
        ventAndSell();
        spillWeighAndCheck();
        numbers();
        forecasts();
        textsAndSlots();
        end();
    }

    /** The least and the most that the argument can be, with what is due there; beside them the error is due. */
    private static void bounds(String what, Supplier<DryIceLane> maker, Call call,
            int least, long atLeast, int most, long atMost, long error) {
        due(what + " " + least, call.on(maker.get(), least), atLeast);
        due(what + " " + most, call.on(maker.get(), most), atMost);
        for (int wrong : new int[] {least - 1, most + 1, Integer.MIN_VALUE, Integer.MAX_VALUE, -GONE, GONE}) {
            leavesAll(what + " " + wrong, maker, van -> call.on(van, wrong), error);
        }
    }

    private static void load() {
        bounds("load, insulation", BoundsTest::threeBoxes, (van, v) -> van.load(v, 5, 5), 1, 3, 100, 3, BAD_VALUE);
        bounds("load, tare", BoundsTest::threeBoxes, (van, v) -> van.load(5, v, 5), 0, 3, 5000000, 3, BAD_VALUE);
        bounds("load, ice", BoundsTest::threeBoxes, (van, v) -> van.load(5, 5, v), 0, 3, 20000000, 3, BAD_VALUE);
    }

    private static void unloadAndShift() {
        bounds("unload", BoundsTest::threeBoxes, (van, v) -> van.unload(v), 0, 20000000, 2, 2980, NO_SUCH);
        bounds("shift of", BoundsTest::threeBoxes, (van, v) -> van.shift(v, 1), 0, 20000000, 2, 2980, NO_SUCH);
        bounds("shift to", BoundsTest::threeBoxes, (van, v) -> van.shift(1, v), 0, 1990, 2, 1990, NO_SUCH);
    }

    private static void set() {
        bounds("set of the setting", BoundsTest::threeBoxes, (van, v) -> van.set(v, 1), 0, 100, 10, 100000, BAD_VALUE);
        for (int i = 0; i < 11; i++) {
            int setting = i;
            bounds("set(" + i + ")", DryIceLane::new, (van, v) -> van.set(setting, v),
                LEAST[i], FIRST[i], MOST[i], FIRST[i], BAD_VALUE);
        }
    }

    private static void route() {
        bounds("leg, minutes", BoundsTest::threeBoxes, (van, v) -> van.leg(v, 7), 1, 2, 600, 2, BAD_VALUE);
        bounds("leg, outside", BoundsTest::threeBoxes, (van, v) -> van.leg(7, v), -4000, 2, 5000, 2, BAD_VALUE);
        bounds("pass on a leg of 600", () -> onTheWay(600, 0), (van, v) -> van.pass(v), 1, 1, 1000, 600, BAD_VALUE);
    }

    private static void ventAndSell() {
        bounds("vent", BoundsTest::threeBoxes, (van, v) -> van.vent(v), 0, 0, 2, 0, BAD_VALUE);
        bounds("sell", BoundsTest::threeFullBoxes, (van, v) -> van.sell(v), 1, 1, 50000000, 3, BAD_VALUE);
    }

    private static void spillWeighAndCheck() {
        bounds("spill of", BoundsTest::threeBoxes, (van, v) -> van.spill(v, 1), 0, 19999999, 2, 2979, NO_SUCH);
        bounds("spill of a full box", BoundsTest::threeBoxes, (van, v) -> van.spill(0, v),
            1, 19999999, 20000000, 0, BAD_VALUE);
        bounds("spill of a little box", BoundsTest::threeBoxes, (van, v) -> van.spill(1, v), 1, 1989, 1990, 0, BAD_VALUE);
        bounds("weigh", BoundsTest::threeBoxes, (van, v) -> van.weigh(v), 0, 25000000, 2, 2983, NO_SUCH);
        bounds("check", BoundsTest::threeBoxes, (van, v) -> van.check(v), 0, 0, 2, 20, NO_SUCH - GONE);
    }

    private static void numbers() {
        bounds("box", BoundsTest::threeBoxes, (van, v) -> van.box(v, 2), 0, 20000000, 2, 2980, NO_SUCH);
        bounds("box, number", BoundsTest::threeBoxes, (van, v) -> van.box(1, v), 0, 50, 4, 200, BAD_VALUE);
        bounds("way", BoundsTest::threeBoxes, (van, v) -> van.way(v, 0), 0, 10, 1, 20, NO_SUCH - GONE);
        bounds("way, number", BoundsTest::threeBoxes, (van, v) -> van.way(1, v), 0, 20, 1, -50, BAD_VALUE - GONE);
        bounds("account", BoundsTest::threeBoxes, (van, v) -> van.account(v), 0, 20004970, 5, 30, BAD_VALUE);
        bounds("van", BoundsTest::threeBoxes, (van, v) -> van.van(v), 0, 0, 25, 100000, BAD_VALUE - GONE);
    }

    private static void forecasts() {
        bounds("atEnd of", BoundsTest::lossless, (van, v) -> van.atEnd(v, 0), 0, 20000000, 2, 2980, NO_SUCH);
        // 100 go off in each of 15 minutes on the way, and in each one of the only wait
        bounds("atEnd, wait", BoundsTest::twoLegs, (van, v) -> van.atEnd(0, v), 0, 98500, 100, 88500, BAD_VALUE);
        // the gas grows by 100 in each minute
        bounds("worst", BoundsTest::tight, (van, v) -> van.worst(v), 1, 50, 1000, 50000, BAD_VALUE);
        bounds("purge", BoundsTest::safeInThousand, (van, v) -> van.purge(v), 1, NONE, 1000, 1000, BAD_VALUE);
        // of boxes that do not become empty none is better; one that would go off whole is better sold before
        bounds("front, ice", BoundsTest::threeFullBoxes, (van, v) -> van.front(v, 1), 1, 0, 50000000, 2, BAD_VALUE);
        bounds("front, minutes", BoundsTest::littleBehind, (van, v) -> van.front(1000, v), 1, 0, 100, 1, BAD_VALUE);
    }

    private static void textsAndSlots() {
        bounds("say", BoundsTest::threeBoxes, (van, v) -> van.say(v), 33, 1, 126, 1, BAD_VALUE);
        bounds("save", BoundsTest::savedTwice, (van, v) -> van.save(v), 0, 9, 1, 9, BAD_VALUE);
        bounds("restore", BoundsTest::savedTwice, (van, v) -> van.restore(v), 0, 0, 1, 4, BAD_VALUE);
    }

    /** An open van with three boxes, of which the first is full and the others have spilled 10 and 20, and two legs. */
    private static DryIceLane threeBoxes() {
        DryIceLane van = opened();
        van.save(0);
        van.load(1, 5000000, 20000000);
        van.load(50, 2, 2000);
        van.load(50, 3, 3000);
        van.spill(1, 10);
        van.spill(2, 20);
        van.leg(10, 50);
        van.leg(20, -50);
        return van;
    }

    private static DryIceLane lossless() {
        DryIceLane van = threeBoxes();
        van.set(DryIceLane.RATE, 0);
        return van;
    }

    private static DryIceLane savedTwice() {
        DryIceLane van = threeBoxes();
        van.pass(4);
        van.save(1);
        van.pass(5);
        return van;
    }

    private static DryIceLane threeFullBoxes() {
        DryIceLane van = opened();
        van.load(50, 0, 20000000);
        van.load(50, 0, 20000000);
        van.load(10, 0, 20000000);
        return van;
    }

    /** 100 go off from each box in a minute, so nothing is left of the last one when 100 minutes have passed. */
    private static DryIceLane littleBehind() {
        DryIceLane van = opened();
        van.load(100, 0, 1000000);
        van.load(100, 0, 5000);
        return van;
    }

    private static DryIceLane twoLegs() {
        DryIceLane van = opened();
        van.load(100, 0, 100000);
        van.leg(5, 2000);
        van.leg(10, 2000);
        return van;
    }

    /** 100 go off in a minute, and no gas is lost. */
    private static DryIceLane tight() {
        DryIceLane van = opened();
        van.load(100, 0, 20000000);
        van.shut();
        van.set(DryIceLane.VOLUME, 1);
        van.set(DryIceLane.LEAK, 0);
        van.vent(DryIceLane.SHUT);
        return van;
    }

    /** 1999 of gas leak, 1 in a minute, and less than 1000 of it are safe. */
    private static DryIceLane safeInThousand() {
        DryIceLane van = withGas(1999);
        van.set(DryIceLane.LEAK, 1);
        van.set(DryIceLane.SAFE, 500);
        return van;
    }
}
