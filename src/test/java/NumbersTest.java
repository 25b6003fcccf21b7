/** Promises 17 to 20: box, van, way, account. */
final class NumbersTest extends Checks {
    public static void main(String[] args) {
        box();
        boxRefused();
        van();
        vanRefused();
        gasBeyondAnInt();
        way();
        account();
        askingChangesNothing();
        soldBeyondAnInt();
        spilledBeyondAnInt();
        numbersAtTheBoundsOfALeg();
        end();
    }

    private static void box() {
        DryIceLane van = opened();
        van.load(3, 77, 500000);
        van.spill(0, 1000);
        due("insulation", van.box(0, INSULATION), 3);
        due("tare", van.box(0, TARE), 77);
        due("ice", van.box(0, ICE), 499000);
        due("paper", van.box(0, PAPER), 500000);
        due("going off", van.box(0, GOING_OFF), 3333);
        van.spill(0, 498999);
        due("going off of the last milligram", van.box(0, GOING_OFF), 1);
        DryIceLane cold = onTheWay(600, -4000);
        cold.set(DryIceLane.SLOW, 1);
        cold.pass(1);
        due("going off at -4000", cold.box(0, GOING_OFF), 80);
    }

    private static void boxRefused() {
        DryIceLane van = opened();
        van.load(3, 77, 500000);
        refused("box(1, 0)", van, () -> van.box(1, 0), NO_SUCH);
        refused("box(-1, 0)", van, () -> van.box(-1, 0), NO_SUCH);
        refused("box(10, 0)", van, () -> van.box(10, 0), NO_SUCH);
        refused("box(0, -1)", van, () -> van.box(0, -1), BAD_VALUE);
        refused("box(0, 5)", van, () -> van.box(0, 5), BAD_VALUE);
        refused("box(1, 5): no box before the value", van, () -> van.box(1, 5), NO_SUCH);
    }

    private static void van() {
        DryIceLane van = withGas(30000);
        van.set(DryIceLane.OPENS, 1);
        van.set(DryIceLane.SHUTS, 0);
        van.set(DryIceLane.SAFE, 20000);
        van.load(1, 1, 1);
        van.open();
        van.load(1, 1, 1);
        van.load(1, 1, 0);
        van.set(DryIceLane.SAFE, 15000);
        van.pass(3);
        van.shut();
        van.leg(10, 3000);
        van.leg(20, 100);
        van.leg(30, 100);
        van.depart();
        van.pass(4);
        van.say('9');
        van.say('!');
        // T: 2000, 2050, 2097, 2142, 2184, 2224, 2262, 2298, 2333, two steps a minute with the open vent
        int[] numbers = {8, 2333, 3000, 30001, 15000, 0, 1, 6, 0, 0, 6, 3, 2, 3, 2};
        for (int what = 0; what < numbers.length; what++) {
            due("van(" + what + ")", van.van(what), numbers[what]);
        }
        van.open();
        due("door on the way", van.van(DOOR_OPEN), 0);
        van.vent(DryIceLane.SHUT);
        due("mode", van.van(VENT_MODE), 1);
        van.set(DryIceLane.VOLUME, 4);
        due("concentration in a greater volume", van.van(CONCENTRATION), 30001 / 8);
        for (int setting = 0; setting < 11; setting++) {
            int value = 1 + setting;
            van.set(setting, value);
            due("van(" + (15 + setting) + ")", van.van(15 + setting), value);
        }
    }

    private static void vanRefused() {
        DryIceLane van = new DryIceLane();
        refused("van(-1)", van, () -> van.van(-1), BAD_VALUE - GONE);
        refused("van(26)", van, () -> van.van(26), BAD_VALUE - GONE);
        refused("van(least int)", van, () -> van.van(Integer.MIN_VALUE), BAD_VALUE - GONE);
        refused("van(most int)", van, () -> van.van(Integer.MAX_VALUE), BAD_VALUE - GONE);
        due("van(9) at the start", van.van(LATEST_LEG), NONE - GONE);
        van.leg(1, 1);
        due("van(9) with a leg that has not begun", van.van(LATEST_LEG), NONE - GONE);
    }

    /** More gas than an int holds still has its true concentration. */
    private static void gasBeyondAnInt() {
        DryIceLane van = opened();
        van.set(DryIceLane.VOLUME, 100);
        van.set(DryIceLane.RATE, 1000);
        van.set(DryIceLane.LEAK, 0);
        van.set(DryIceLane.DOOR, 0);
        van.vent(DryIceLane.SHUT);
        for (int batch = 0; batch < 11; batch++) {
            for (int i = 0; i < 10; i++) {
                van.load(1, 0, 20000000);
            }
            van.pass(300);
            for (int i = 0; i < 10; i++) {
                van.unload(0);
            }
        }
        due("what went off", van.account(3), 2200000000L);
        due("concentration", van.van(CONCENTRATION), 11000000);
        van.set(DryIceLane.LEAK, 100);
        van.pass(1);
        due("gas", van.van(GAS), 1980000000);
    }

    private static void way() {
        DryIceLane van = new DryIceLane();
        refused("way of no leg", van, () -> van.way(0, 0), NO_SUCH - GONE);
        van.leg(10, -5);
        van.leg(20, 4999);
        due("duration", van.way(1, 0), 20);
        due("outside", van.way(1, 1), 4999);
        due("outside of the first one", van.way(0, 1), -5);
        refused("way(2, 0)", van, () -> van.way(2, 0), NO_SUCH - GONE);
        refused("way(-1, 0)", van, () -> van.way(-1, 0), NO_SUCH - GONE);
        refused("way(0, 2)", van, () -> van.way(0, 2), BAD_VALUE - GONE);
        refused("way(0, -1)", van, () -> van.way(0, -1), BAD_VALUE - GONE);
        refused("way(2, 2): no leg before the value", van, () -> van.way(2, 2), NO_SUCH - GONE);
        van.depart();
        van.pass(5);
        due("duration of the leg that the van is on", van.way(0, 0), 10);
    }

    private static void account() {
        DryIceLane van = opened();
        van.load(50, 5, 100000);
        van.load(100, 5, 200000);
        van.load(50, 5, 1000);
        van.pass(2);
        van.sell(10000);
        van.spill(1, 77);
        van.unload(2);
        van.shut();
        van.pass(1);
        due("what all boxes have", van.account(0), 100000 - 600 - 10000 + 200000 - 300 - 77);
        due("what was put in", van.account(1), 301000);
        due("what was taken out", van.account(2), 600);
        due("what went off", van.account(3), 900 + 400);
        due("what was sold", van.account(4), 10000);
        due("what was spilled", van.account(5), 77);
        refused("account(-1)", van, () -> van.account(-1), BAD_VALUE);
        refused("account(6)", van, () -> van.account(6), BAD_VALUE);
        van.open();
        for (int i = 0; i < 120; i++) {
            van.load(1, 0, 20000000);
            van.unload(2);
        }
        due("what was put in beyond an int", van.account(1), 2400301000L);
        due("what was taken out beyond an int", van.account(2), 2400000600L);
    }

    private static void askingChangesNothing() {
        DryIceLane van = onTheWay(10, 500);
        van.pass(5);
        van.say('1');
        same("asking twice", picture(van), picture(van));
        leavesAll("box", Checks::busyOnTheWay, asked -> asked.box(1, TARE), 70);
        leavesAll("van", Checks::busyOnTheWay, asked -> asked.van(LEGS), 4);
        leavesAll("way", Checks::busyOnTheWay, asked -> asked.way(3, 0), 10);
        leavesAll("account", Checks::busyOnTheWay, asked -> asked.account(5), 2000);
        leavesAll("fault", Checks::busyOnTheWay, DryIceLane::fault, NONE);
        leavesAll("weigh", Checks::busyAndShut, asked -> asked.weigh(1) - asked.box(1, ICE), 70);
    }

    private static void soldBeyondAnInt() {
        DryIceLane van = fullBoxes();
        for (int batch = 0; batch < 11; batch++) {
            for (int i = 0; i < 4; i++) {
                due("sell from full boxes", van.sell(50000000), 3);
            }
            refillFullBoxes(van);
        }
        due("what was sold", van.account(4), 2200000000L);
        due("what was put in", van.account(1), 2400000000L);
        due("what was taken out", van.account(2), 0);
    }

    private static void spilledBeyondAnInt() {
        DryIceLane van = fullBoxes();
        for (int batch = 0; batch < 11; batch++) {
            for (int box = 0; box < 10; box++) {
                van.spill(box, 20000000);
            }
            refillFullBoxes(van);
        }
        due("what was spilled", van.account(5), 2200000000L);
        due("what all boxes have", van.account(0), 200000000);
    }

    private static DryIceLane fullBoxes() {
        DryIceLane van = opened();
        for (int i = 0; i < 10; i++) {
            van.load(1, 0, 20000000);
        }
        return van;
    }

    private static void refillFullBoxes(DryIceLane van) {
        for (int i = 0; i < 10; i++) {
            van.unload(0);
            van.load(1, 0, 20000000);
        }
    }

    /** The latest leg and its minutes: before the first leg, as it begins, in its last minute, and at its stop. */
    private static void numbersAtTheBoundsOfALeg() {
        DryIceLane van = new DryIceLane();
        van.leg(2, 0);
        van.leg(600, 0);
        legIs(van, "at the start", NONE - GONE, 0);
        van.depart();
        legIs(van, "when the leg begins", 0, 2);
        van.pass(1);
        legIs(van, "in the last minute", 0, 1);
        van.pass(1);
        legIs(van, "at the stop", 0, 0);
        van.depart();
        legIs(van, "when the longest leg begins", 1, 600);
        van.pass(599);
        legIs(van, "in its last minute", 1, 1);
        van.pass(1000);
        legIs(van, "at its stop", 1, 0);
    }

    private static void legIs(DryIceLane van, String when, int latest, int left) {
        due("latest leg " + when, van.van(LATEST_LEG), latest);
        due("minutes left " + when, van.van(MINUTES_LEFT), left);
    }
}
