/** A MINUTE of the description at the bounds of its steps and of the settings. */
final class MinuteBoundsTest extends Checks {
    public static void main(String[] args) {
        leastThatGoesOff();
        mostThatGoesOff();
        lastIceGoesOff();
        smallDifferencesChangeNothing();
        coolingEndsAtTheLimit();
        coolingByTheLeastAndTheMost();
        littleGasStays();
        gasAtTheBoundsOfTheSettings();
        concentrationInTheVolume();
        opensAtItsBounds();
        shutsAtItsBounds();
        longestHold();
        alarmsAtTheBoundsOfSafe();
        lastMinuteOfALeg();
        end();
    }

    /** At -7900, the lowest T, (T + 8000) * RATE / (100 * insulation) is RATE / insulation. */
    private static void leastThatGoesOff() {
        DryIceLane van = frozen();
        due("T", van.van(TEMPERATURE), -7900);
        van.load(1, 0, 20000000);
        van.load(2, 0, 20000000);
        van.load(100, 0, 20000000);
        van.set(DryIceLane.RATE, 1);
        due("going off of insulation 1 at the rate 1", van.box(0, GOING_OFF), 1);
        due("going off of insulation 2 at the rate 1", van.box(1, GOING_OFF), 0);
        van.set(DryIceLane.RATE, 99);
        due("going off of insulation 100 at the rate 99", van.box(2, GOING_OFF), 0);
        van.set(DryIceLane.RATE, 100);
        due("going off of insulation 100 at the rate 100", van.box(2, GOING_OFF), 1);
        van.pass(1);
        due("ice of insulation 100", van.box(2, ICE), 19999999);
    }

    private static void mostThatGoesOff() {
        DryIceLane van = new DryIceLane();
        van.set(DryIceLane.SLOW, 1);
        van.set(DryIceLane.COOL, 100000);
        van.set(DryIceLane.RATE, 1000);
        van.leg(1, 5000);
        van.depart();
        van.pass(1);
        due("T", van.van(TEMPERATURE), 5000);
        van.open();
        for (int i = 0; i < 10; i++) {
            van.load(1, 0, 20000000);
        }
        due("going off", van.box(9, GOING_OFF), 130000);
        van.pass(1);
        due("ice", van.box(9, ICE), 19870000);
        due("what went off", van.account(3), 1300000);
        due("T cooled by 1300000 / 100000", van.van(TEMPERATURE), 5000 - 13);
    }

    private static void lastIceGoesOff() {
        DryIceLane van = opened();
        van.load(1, 0, 9999);
        van.load(1, 0, 10000);
        van.load(1, 0, 10001);
        due("going off of less than 10000", van.box(0, GOING_OFF), 9999);
        due("going off of 10000", van.box(1, GOING_OFF), 10000);
        due("going off of more than 10000", van.box(2, GOING_OFF), 10000);
        van.pass(1);
        due("ice of 9999", van.box(0, ICE), 0);
        due("ice of 10000", van.box(1, ICE), 0);
        due("ice of 10001", van.box(2, ICE), 1);
        due("what went off", van.account(3), 29999);
    }

    /** Divisions are rounded toward 0, from both sides. */
    private static void smallDifferencesChangeNothing() {
        due("T at 19 above, SLOW 20", afterAMinute(2019, 20, false), 2000);
        due("T at 19 below, SLOW 20", afterAMinute(1981, 20, false), 2000);
        due("T at 20 above, SLOW 20", afterAMinute(2020, 20, false), 2001);
        due("T at 20 below, SLOW 20", afterAMinute(1980, 20, false), 1999);
        due("T at 199 above, SLOW 200", afterAMinute(2199, 200, false), 2000);
        due("T at 200 below, SLOW 200", afterAMinute(1800, 200, false), 1999);
        due("T at 1 below, SLOW 1", afterAMinute(1999, 1, false), 1999);
        due("T at 3 above, open door", afterAMinute(2003, 200, true), 2000);
        due("T at 3 below, open door", afterAMinute(1997, 200, true), 2000);
        due("T at 4 above, open door", afterAMinute(2004, 200, true), 2001);
        due("T at 4 below, open door", afterAMinute(1996, 200, true), 1999);
    }

    /** T is 2000 until the stop of the leg, and then changes for a minute. */
    private static int afterAMinute(int outside, int slow, boolean open) {
        DryIceLane van = new DryIceLane();
        van.leg(1, outside);
        van.depart();
        van.set(DryIceLane.SLOW, 200);
        if (!open) {
            van.set(DryIceLane.SLOW, slow);
            van.pass(1);
            return van.van(TEMPERATURE);
        }
        van.pass(1);
        due("T before the door opens", van.van(TEMPERATURE), 2000);
        van.open();
        van.pass(1);
        return van.van(TEMPERATURE);
    }

    private static void coolingEndsAtTheLimit() {
        due("T cooled to a little above the limit", cooledBy(9899), -7899);
        due("T cooled to the limit", cooledBy(9900), -7900);
        due("T cooled beyond the limit", cooledBy(9901), -7900);
        due("T cooled far beyond the limit", cooledBy(20000), -7900);
        due("T that nothing cools", cooledBy(0), 2000);
        DryIceLane van = frozen();
        van.load(1, 0, 100);
        van.set(DryIceLane.SLOW, 200);
        // -7900 by 9900 / 200 = 49, by the open door (2000 + 7851) / 4 = 2462, then by -100
        van.pass(1);
        due("T that rises off the limit", van.van(TEMPERATURE), -7900 + 49 + 2462 - 100);
    }

    private static int cooledBy(int ice) {
        DryIceLane van = new DryIceLane();
        van.set(DryIceLane.RATE, 1000);
        van.set(DryIceLane.COOL, 1);
        van.open();
        van.load(1, 0, ice);
        van.pass(1);
        return van.van(TEMPERATURE);
    }

    private static void coolingByTheLeastAndTheMost() {
        DryIceLane van = opened();
        van.set(DryIceLane.RATE, 1000);
        van.load(1, 0, 99999);
        van.pass(1);
        due("T, 99999 at COOL 100000", van.van(TEMPERATURE), 2000);
        van.load(1, 0, 100000);
        van.pass(1);
        due("T, 100000 at COOL 100000", van.van(TEMPERATURE), 1999);
        van.set(DryIceLane.COOL, 1);
        van.load(1, 0, 7);
        van.pass(1);
        due("T, 7 at COOL 1", van.van(TEMPERATURE), 1992);
    }

    private static void littleGasStays() {
        due("gas 199 at LEAK 5", leftOf(199, DryIceLane.LEAK, 5), 199);
        due("gas 200 at LEAK 5", leftOf(200, DryIceLane.LEAK, 5), 199);
        due("gas 399 at LEAK 5", leftOf(399, DryIceLane.LEAK, 5), 398);
        due("gas 9 at LEAK 100", leftOf(9, DryIceLane.LEAK, 100), 9);
        due("gas 1 at VENT 500", leftOf(1, DryIceLane.VENT, 500), 1);
        due("gas 2 at VENT 500", leftOf(2, DryIceLane.VENT, 500), 1);
        due("gas 1 at DOOR 900", leftOf(1, DryIceLane.DOOR, 900), 1);
        due("gas 2 at DOOR 900", leftOf(2, DryIceLane.DOOR, 900), 1);
        due("gas 0 at DOOR 900", leftOf(0, DryIceLane.DOOR, 900), 0);
    }

    private static void gasAtTheBoundsOfTheSettings() {
        due("gas at LEAK 0", leftOf(99999, DryIceLane.LEAK, 0), 99999);
        due("gas at LEAK 1", leftOf(99999, DryIceLane.LEAK, 1), 99900);
        due("gas at LEAK 100", leftOf(99999, DryIceLane.LEAK, 100), 90000);
        due("gas at VENT 0", leftOf(99999, DryIceLane.VENT, 0), 99999);
        due("gas at VENT 1", leftOf(99999, DryIceLane.VENT, 1), 99900);
        due("gas at VENT 500", leftOf(99999, DryIceLane.VENT, 500), 50000);
        due("gas at DOOR 0", leftOf(99999, DryIceLane.DOOR, 0), 99999);
        due("gas at DOOR 1", leftOf(99999, DryIceLane.DOOR, 1), 99900);
        due("gas at DOOR 900", leftOf(99999, DryIceLane.DOOR, 900), 10000);
    }

    /** The gas behind a minute with an open vent and an open door, of which only one lets gas out by its setting. */
    private static int leftOf(int gas, int setting, int value) {
        DryIceLane van = withGas(gas);
        van.open();
        van.vent(DryIceLane.OPEN);
        van.set(setting, value);
        van.pass(1);
        return van.van(GAS);
    }

    private static void concentrationInTheVolume() {
        DryIceLane van = withGas(9999);
        due("concentration at VOLUME 1", van.van(CONCENTRATION), 4999);
        van.set(DryIceLane.VOLUME, 2);
        due("concentration at VOLUME 2", van.van(CONCENTRATION), 2499);
        van.set(DryIceLane.VOLUME, 100);
        due("concentration at VOLUME 100", van.van(CONCENTRATION), 49);
        DryIceLane little = withGas(1);
        due("concentration of the gas 1", little.van(CONCENTRATION), 0);
    }

    private static void opensAtItsBounds() {
        due("vent at 0, OPENS 1", ventAfterAMinute(1, 1), 0);
        due("vent at 1, OPENS 1", ventAfterAMinute(2, 1), 1);
        due("vent at 49999, OPENS 50000", ventAfterAMinute(99999, 50000), 0);
        DryIceLane van = withGas(50000);
        van.open();
        van.load(1, 0, 50000);
        van.pass(1);
        due("concentration", van.van(CONCENTRATION), 50000);
        due("vent at 50000, OPENS 50000", van.van(VENT_OPEN), 1);
        due("minutes of the vent that opens", van.van(VENT_MINUTES), 0);
    }

    private static int ventAfterAMinute(int gas, int opens) {
        DryIceLane van = withGas(gas);
        van.set(DryIceLane.OPENS, opens);
        van.pass(1);
        return van.van(VENT_OPEN);
    }

    private static void shutsAtItsBounds() {
        due("vent at 1, SHUTS 0", openVentAfterAMinute(2, 0), 1);
        due("vent at 0, SHUTS 0", openVentAfterAMinute(1, 0), 0);
        due("vent at 49999, SHUTS 49998", openVentAfterAMinute(99999, 49998), 1);
        due("vent at 49999, SHUTS 49999", openVentAfterAMinute(99999, 49999), 0);
        due("vent at 49999, SHUTS 50000", openVentAfterAMinute(99999, 50000), 0);
    }

    private static int openVentAfterAMinute(int gas, int shuts) {
        DryIceLane van = withGas(gas);
        van.vent(DryIceLane.OPEN);
        van.vent(DryIceLane.AUTO);
        van.set(DryIceLane.HOLD, 1);
        van.set(DryIceLane.SHUTS, shuts);
        van.pass(1);
        return van.van(VENT_OPEN);
    }

    private static void longestHold() {
        DryIceLane van = withGas(0);
        van.vent(DryIceLane.OPEN);
        van.vent(DryIceLane.AUTO);
        van.set(DryIceLane.HOLD, 100);
        van.pass(99);
        due("vent a minute before HOLD", van.van(VENT_OPEN), 1);
        due("minutes", van.van(VENT_MINUTES), 99);
        van.pass(1);
        due("vent at HOLD", van.van(VENT_OPEN), 0);
        due("minutes", van.van(VENT_MINUTES), 0);
    }

    private static void alarmsAtTheBoundsOfSafe() {
        due("alarms at 0, SAFE 1", alarmsAfterAMinute(1, 1), 0);
        due("alarms at 1, SAFE 1", alarmsAfterAMinute(2, 1), 1);
        due("alarms at 49999, SAFE 50000", alarmsAfterAMinute(99999, 50000), 0);
        due("alarms at 49999, SAFE 49999", alarmsAfterAMinute(99999, 49999), 1);
    }

    private static int alarmsAfterAMinute(int gas, int safe) {
        DryIceLane van = withGas(gas);
        van.open();
        van.set(DryIceLane.SAFE, safe);
        van.pass(1);
        return van.van(ALARMS);
    }

    /** The shortest leg is over behind one minute, in which its outside temperature applies. */
    private static void lastMinuteOfALeg() {
        DryIceLane van = new DryIceLane();
        van.set(DryIceLane.SLOW, 1);
        van.leg(1, -4000);
        van.leg(1, 5000);
        due("T before the leg begins", van.van(TEMPERATURE), 2000);
        van.pass(1);
        due("T of the start", van.van(TEMPERATURE), 2000);
        van.depart();
        due("minutes left", van.van(MINUTES_LEFT), 1);
        due("pass beyond the stop", van.pass(2), 1);
        due("T", van.van(TEMPERATURE), -4000);
        due("minutes left", van.van(MINUTES_LEFT), 0);
        due("time", van.van(TIME), 3);
        van.depart();
        van.pass(1);
        due("T of the next leg", van.van(TEMPERATURE), 5000);
    }

    /** An open van without ice, as cold as ice can make it, that is cooled by all that goes off. */
    private static DryIceLane frozen() {
        DryIceLane van = new DryIceLane();
        van.set(DryIceLane.COOL, 1);
        van.open();
        van.load(1, 0, 10000);
        van.pass(1);
        van.unload(0);
        van.set(DryIceLane.SAFE, 50000);
        return van;
    }
}
