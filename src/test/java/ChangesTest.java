import java.util.Set;
import java.util.TreeSet;
import java.util.function.LongSupplier;

/** Each call that is not refused changes what the document says, and nothing else that can be asked. */
final class ChangesTest extends Checks {
    private static final int RATE = 15 + DryIceLane.RATE, VOLUME = 15 + DryIceLane.VOLUME;
    private static final int ALL_ICE = 100, PUT_IN = 101, TAKEN_OUT = 102, SOLD = 104, SPILLED = 105, FAULT = 106;

    public static void main(String[] args) {
        boxes();
        settings();
        route();
        ventAndDoor();
        selling();
        weighing();
        texts();
        saving();
        end();
    }

    private static void boxes() {
        DryIceLane van = busy();
        changes("load", van, () -> van.load(9, 8, 7), 2,
            BOXES, box(2, INSULATION), box(2, TARE), box(2, ICE), box(2, PAPER), box(2, GOING_OFF), ALL_ICE, PUT_IN);
        changes("shift", van, () -> van.shift(2, 2), 7);
        changes("shift", van, () -> van.shift(0, 1), van.box(0, ICE), box(0, INSULATION), box(0, TARE), box(0, ICE),
            box(0, PAPER), box(0, GOING_OFF), box(1, INSULATION), box(1, TARE), box(1, ICE), box(1, PAPER), box(1, GOING_OFF));
        changes("unload", van, () -> van.unload(2), 7,
            BOXES, box(2, INSULATION), box(2, TARE), box(2, ICE), box(2, PAPER), box(2, GOING_OFF), ALL_ICE, TAKEN_OUT);
    }

    private static void settings() {
        DryIceLane van = busy();
        for (int i = 0; i < 11; i++) {
            int setting = i;
            if (15 + i == RATE) {
                changes("set(RATE)", van, () -> van.set(setting, 7), 101, RATE, box(0, GOING_OFF), box(1, GOING_OFF));
            } else if (15 + i == VOLUME) {
                changes("set(VOLUME)", van, () -> van.set(setting, 7), 11, VOLUME, CONCENTRATION);
            } else {
                changes("set(" + i + ")", van, () -> van.set(setting, 7), van.van(15 + i), 15 + i);
            }
        }
    }

    private static void route() {
        DryIceLane van = busyAndShut();
        changes("leg", van, () -> van.leg(5, 6), 4, LEGS, leg(4, 0), leg(4, 1));
        changes("cut", van, van::cut, 4, LEGS, leg(4, 0), leg(4, 1));
        changes("depart", van, van::depart, 1, OUTSIDE, LATEST_LEG, MINUTES_LEFT);
        DryIceLane empty = new DryIceLane();
        changes("pass with nothing in the van", empty, () -> empty.pass(1), 0, TIME);
    }

    private static void ventAndDoor() {
        DryIceLane van = withGas(20000);
        changes("vent(OPEN)", van, () -> van.vent(DryIceLane.OPEN), 0, VENT_MODE, VENT_OPEN);
        changes("vent(OPEN) again", van, () -> van.vent(DryIceLane.OPEN), 2);
        changes("vent(AUTO)", van, () -> van.vent(DryIceLane.AUTO), 2, VENT_MODE);
        changes("vent(SHUT)", van, () -> van.vent(DryIceLane.SHUT), 0, VENT_MODE, VENT_OPEN);
        changes("open", van, van::open, 10000, DOOR_OPEN);
        changes("shut", van, van::shut, 10000, DOOR_OPEN);
        van.set(DryIceLane.SAFE, 10000);
        changes("open with much gas", van, van::open, NONE, VENT_OPEN);
        changes("vent(SHUT) again", van, () -> van.vent(DryIceLane.SHUT), 1, VENT_OPEN);
    }

    private static void selling() {
        DryIceLane van = busy();
        changes("sell", van, () -> van.sell(10), 1, box(0, ICE), box(0, PAPER), ALL_ICE, SOLD);
        int rest = van.box(0, ICE) + 1;
        changes("sell of a box and more", van, () -> van.sell(rest), 2, box(0, ICE), box(0, PAPER), box(0, GOING_OFF),
            box(1, ICE), box(1, PAPER), ALL_ICE, SOLD);
        changes("spill", van, () -> van.spill(1, 10), van.box(1, ICE) - 10, box(1, ICE), ALL_ICE, SPILLED);
    }

    private static void weighing() {
        DryIceLane van = busy();
        changes("weigh", van, () -> van.weigh(1), 70 + van.box(1, ICE));
        changes("check", van, () -> van.check(1), 2000, box(1, PAPER));
        changes("check again", van, () -> van.check(1), 0);
    }

    private static void texts() {
        DryIceLane van = busy();
        changes("say", van, () -> van.say(','), 13, PAD_LENGTH, FAULT);
        changes("wipe", van, van::wipe, 13, PAD_LENGTH, FAULT);
        write(van, "9@9,8@-8");
        changes("read", van, van::read, 6, PAD_LENGTH, FAULT, LEGS, leg(4, 0), leg(4, 1), leg(5, 0), leg(5, 1));
    }

    private static void saving() {
        DryIceLane van = busy();
        changes("save", van, () -> van.save(1), van.van(TIME));
        changes("restore", van, () -> van.restore(1), van.van(TIME));
    }

    private static int box(int box, int what) {
        return 26 + 5 * box + what;
    }

    private static int leg(int leg, int what) {
        return 76 + 2 * leg + what;
    }

    /** Checks the answer of a call, and that of the picture it changed just the numbers that are listed. */
    private static void changes(String call, DryIceLane van, LongSupplier caller, long want, int... listed) {
        long[] before = picture(van);
        due(call, caller.getAsLong(), want);
        long[] after = picture(van);
        Set<Integer> expected = new TreeSet<>();
        for (int number : listed) {
            expected.add(number);
        }
        for (int i = 0; i < before.length; i++) {
            due(call + " changes number " + i + " of the picture", before[i] != after[i] ? 1 : 0, expected.contains(i) ? 1 : 0);
        }
    }
}
