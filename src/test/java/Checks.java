import java.util.function.LongSupplier;

/** What the tests have in common: it counts the answers that are not due, and makes the vans that many tests begin with. */
abstract class Checks {
    static final int NO_SUCH = DryIceLane.NO_SUCH, BAD_VALUE = DryIceLane.BAD_VALUE, BAD_TEXT = DryIceLane.BAD_TEXT;
    static final int TOO_MANY = DryIceLane.TOO_MANY, NOT_POSSIBLE = DryIceLane.NOT_POSSIBLE, NONE = DryIceLane.NONE;
    static final int GONE = DryIceLane.GONE;

    static final int TIME = 0, TEMPERATURE = 1, OUTSIDE = 2, GAS = 3, CONCENTRATION = 4, VENT_MODE = 5, VENT_OPEN = 6;
    static final int VENT_MINUTES = 7, DOOR_OPEN = 8, LATEST_LEG = 9, MINUTES_LEFT = 10, ALARMS = 11, BOXES = 12;
    static final int LEGS = 13, PAD_LENGTH = 14;
    static final int INSULATION = 0, TARE = 1, ICE = 2, PAPER = 3, GOING_OFF = 4;

    private static int wrong = 0;

    static void due(String call, long got, long want) {
        if (got != want) {
            wrong++;
            System.out.println(call + " answered " + got + ", due is " + want);
        }
    }

    /** Checks that a call was refused with the error, and that it changed nothing that can be asked. */
    static void refused(String call, DryIceLane van, LongSupplier caller, long error) {
        long[] before = picture(van);
        due(call, caller.getAsLong(), error);
        same(call + ", refused,", before, picture(van));
    }

    static void same(String what, long[] before, long[] after) {
        for (int i = 0; i < before.length; i++) {
            due(what + " number " + i + " of the picture", after[i], before[i]);
        }
    }

    /** Checks that the first numbers of a picture are all others now. */
    static void differs(String what, long[] before, long[] after, int numbers) {
        for (int i = 0; i < numbers; i++) {
            if (before[i] == after[i]) {
                wrong++;
                System.out.println(what + " left number " + i + " of the picture at " + before[i]);
            }
        }
    }

    /** All that can be asked of a van without changing it. */
    static long[] picture(DryIceLane van) {
        long[] numbers = new long[26 + 10 * 5 + 12 * 2 + 6 + 1];
        int at = 0;
        for (int what = 0; what < 26; what++) {
            numbers[at++] = van.van(what);
        }
        for (int box = 0; box < 10; box++) {
            for (int what = 0; what < 5; what++) {
                numbers[at++] = van.box(box, what);
            }
        }
        for (int leg = 0; leg < 12; leg++) {
            numbers[at++] = van.way(leg, 0);
            numbers[at++] = van.way(leg, 1);
        }
        for (int what = 0; what < 6; what++) {
            numbers[at++] = van.account(what);
        }
        numbers[at] = van.fault();
        return numbers;
    }

    static void end() {
        if (wrong != 0) {
            System.out.println(wrong + " answers are not as due");
            System.exit(1);
        }
    }

    /** A van at the start with an open door, whose ice does not cool the hold. */
    static DryIceLane opened() {
        DryIceLane van = new DryIceLane();
        van.set(DryIceLane.COOL, 100000);
        van.open();
        return van;
    }

    /**
     * A van at the start, at the time 1, with a shut door, a shut vent and this gas (at most 99999), and so a
     * concentration of gas / 2; neither leak nor vent nor door take gas away, and the vent does not open by itself.
     */
    static DryIceLane withGas(int gas) {
        DryIceLane van = opened();
        van.set(DryIceLane.VOLUME, 1);
        van.set(DryIceLane.VENT, 0);
        van.set(DryIceLane.LEAK, 0);
        van.set(DryIceLane.DOOR, 0);
        van.set(DryIceLane.OPENS, 50000);
        van.set(DryIceLane.SAFE, 50000);
        van.set(DryIceLane.RATE, 1000);
        van.load(1, 0, gas);
        van.pass(1);
        van.unload(0);
        van.shut();
        return van;
    }

    /** A van that is on the way on its first leg, with one box of 1000000 in insulation 50 and a shut door. */
    static DryIceLane onTheWay(int minutes, int outside) {
        DryIceLane van = opened();
        van.load(50, 1000, 1000000);
        van.shut();
        van.leg(minutes, outside);
        van.depart();
        return van;
    }

    static void write(DryIceLane van, String text) {
        for (int i = 0; i < text.length(); i++) {
            van.say(text.charAt(i));
        }
    }
}
