import java.util.function.LongSupplier;
import java.util.function.Supplier;
import java.util.function.ToLongFunction;
import java.util.stream.LongStream;

/** What the tests have in common: it counts the answers that are not due, and makes the vans that many tests begin with. */
abstract class Checks {
    static final int NO_SUCH = DryIceLane.NO_SUCH, BAD_VALUE = DryIceLane.BAD_VALUE, BAD_TEXT = DryIceLane.BAD_TEXT;
    static final int TOO_MANY = DryIceLane.TOO_MANY, NOT_POSSIBLE = DryIceLane.NOT_POSSIBLE, NONE = DryIceLane.NONE;
    static final int GONE = DryIceLane.GONE;

    static final int TIME = 0, TEMPERATURE = 1, OUTSIDE = 2, GAS = 3, CONCENTRATION = 4, VENT_MODE = 5, VENT_OPEN = 6;
    static final int VENT_MINUTES = 7, DOOR_OPEN = 8, LATEST_LEG = 9, MINUTES_LEFT = 10, ALARMS = 11, BOXES = 12;
    static final int LEGS = 13, PAD_LENGTH = 14;
    static final int INSULATION = 0, TARE = 1, ICE = 2, PAPER = 3, GOING_OFF = 4;

    private static int wrong = 0;

    static void due(String call, long got, long want) {
        if (got != want) {
            wrong++;
            System.out.println(call + " answered " + got + ", due is " + want);
        }
    }

    /** Checks that a call was refused with the error, and that it changed nothing that can be asked. */
    static void refused(String call, DryIceLane van, LongSupplier caller, long error) {
        long[] before = picture(van);
        due(call, caller.getAsLong(), error);
        same(call + ", refused,", before, picture(van));
    }

    /**
     * Checks the answer of a call that changes nothing: the van is then as one on which it was not made, with all that it
     * holds, also the text and the slots, which no picture shows.
     */
    static void leavesAll(String call, Supplier<DryIceLane> maker, ToLongFunction<DryIceLane> caller, long want) {
        DryIceLane van = maker.get();
        due(call, caller.applyAsLong(van), want);
        same(call + ", which changes nothing,", story(maker.get()), story(van));
    }

    /** What comes to light when the van goes on, restores what it has saved, and reads its text. It changes the van. */
    static long[] story(DryIceLane van) {
        LongStream.Builder told = LongStream.builder();
        tell(told, van, 0);
        tell(told, van, van.pass(7));
        tell(told, van, van.restore(0));
        tell(told, van, van.read());
        tell(told, van, van.restore(1));
        return told.build().toArray();
    }

    private static void tell(LongStream.Builder told, DryIceLane van, long answer) {
        told.add(answer);
        for (long number : picture(van)) {
            told.add(number);
        }
    }

    static void same(String what, long[] before, long[] after) {
        for (int i = 0; i < before.length; i++) {
            due(what + " number " + i + " of the picture", after[i], before[i]);
        }
    }

    /** Checks that the first numbers of a picture are all others now. */
    static void differs(String what, long[] before, long[] after, int numbers) {
        for (int i = 0; i < numbers; i++) {
            if (before[i] == after[i]) {
                wrong++;
                System.out.println(what + " left number " + i + " of the picture at " + before[i]);
            }
        }
    }

    /** All that can be asked of a van without changing it. */
    static long[] picture(DryIceLane van) {
        long[] numbers = new long[26 + 10 * 5 + 12 * 2 + 6 + 1];
        int at = 0;
        for (int what = 0; what < 26; what++) {
            numbers[at++] = van.van(what);
        }
        for (int box = 0; box < 10; box++) {
            for (int what = 0; what < 5; what++) {
                numbers[at++] = van.box(box, what);
            }
        }
        for (int leg = 0; leg < 12; leg++) {
            numbers[at++] = van.way(leg, 0);
            numbers[at++] = van.way(leg, 1);
        }
        for (int what = 0; what < 6; what++) {
            numbers[at++] = van.account(what);
        }
        numbers[at] = van.fault();
        return numbers;
    }

    static void end() {
        if (wrong != 0) {
            System.out.println(wrong + " answers are not as due");
            System.exit(1);
        }
    }

    /** A van at the start with an open door, whose ice does not cool the hold. */
    static DryIceLane opened() {
        DryIceLane van = new DryIceLane();
        van.set(DryIceLane.COOL, 100000);
        van.open();
        return van;
    }

    /**
     * A van at the start, at the time 1, with a shut door, a shut vent and this gas (at most 99999), and so a
     * concentration of gas / 2; neither leak nor vent nor door take gas away, and the vent does not open by itself.
     */
    static DryIceLane withGas(int gas) {
        DryIceLane van = opened();
        van.set(DryIceLane.VOLUME, 1);
        van.set(DryIceLane.VENT, 0);
        van.set(DryIceLane.LEAK, 0);
        van.set(DryIceLane.DOOR, 0);
        van.set(DryIceLane.OPENS, 50000);
        van.set(DryIceLane.SAFE, 50000);
        van.set(DryIceLane.RATE, 1000);
        van.load(1, 0, gas);
        van.pass(1);
        van.unload(0);
        van.shut();
        return van;
    }

    /** A van that is on the way on its first leg, with one box of 1000000 in insulation 50 and a shut door. */
    static DryIceLane onTheWay(int minutes, int outside) {
        DryIceLane van = opened();
        van.load(50, 1000, 1000000);
        van.shut();
        van.leg(minutes, outside);
        van.depart();
        return van;
    }

    /** A van in which nothing has its first value: it stands at the stop of its first leg, with an open door. */
    static DryIceLane used() {
        DryIceLane van = new DryIceLane();
        for (int setting = 0; setting < 11; setting++) {
            van.set(setting, van.van(15 + setting) + 1);
        }
        van.set(DryIceLane.SHUTS, 0);
        van.open();
        van.load(3, 30, 900000);
        van.load(5, 50, 800000);
        van.load(7, 70, 700000);
        van.unload(0);
        van.sell(1000);
        van.spill(1, 2000);
        van.vent(DryIceLane.OPEN);
        van.vent(DryIceLane.AUTO);
        van.shut();
        van.leg(4, 4000);
        van.leg(8, -2000);
        van.leg(9, -1000);
        van.depart();
        van.pass(6);
        van.open();
        van.set(DryIceLane.SAFE, 1);
        van.pass(3);
        return van;
    }

    /** A used van with a text of two legs, and with another van in the slot 0; nothing was saved in the slot 1. */
    static DryIceLane busy() {
        DryIceLane van = used();
        van.save(0);
        van.sell(5);
        van.leg(10, 100);
        van.pass(1);
        write(van, "30@-5,600@50");
        return van;
    }

    static DryIceLane busyAndShut() {
        DryIceLane van = busy();
        van.shut();
        return van;
    }

    static DryIceLane busyOnTheWay() {
        DryIceLane van = busyAndShut();
        van.depart();
        van.pass(3);
        return van;
    }

    /** An open van that has as much as it can have: 10 boxes, 12 legs, and a correct text of 80 characters and 11 legs. */
    static DryIceLane packed() {
        DryIceLane van = opened();
        van.save(0);
        for (int i = 0; i < 10; i++) {
            van.load(10 + i, i, 1000000 + i);
        }
        for (int i = 0; i < 12; i++) {
            van.leg(1 + i, 100 * i);
        }
        write(van, "600@-40,600@-40,600@-40,600@-40,600@50,600@50,600@50,600@50,600@50,600@50,600@50");
        return van;
    }

    static void write(DryIceLane van, String text) {
        for (int i = 0; i < text.length(); i++) {
            van.say(text.charAt(i));
        }
    }
}
