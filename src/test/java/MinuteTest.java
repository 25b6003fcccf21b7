/** A MINUTE of the description, step by step. */
final class MinuteTest extends Checks {
    public static void main(String[] args) {
        whatGoesOff();
        noMoreThanThereIs();
        paperGoesOffToo();
        temperatureFollowsOutside();
        openVentAndDoorMixTheAir();
        iceCools();
        iceCoolsToALimit();
        gasIsLost();
        ventHasAHysteresis();
        ventCountsInAutoOnly();
        ventIsMovedLast();
        alarms();
        end();
    }

    private static void whatGoesOff() {
        DryIceLane van = opened();
        van.load(7, 0, 100000);
        van.load(100, 0, 100000);
        van.load(1, 0, 100000);
        // 10000 * 100 / (100 * insulation), rounded toward 0
        due("going off of insulation 7", van.box(0, GOING_OFF), 1428);
        due("going off of insulation 100", van.box(1, GOING_OFF), 100);
        due("going off of insulation 1", van.box(2, GOING_OFF), 10000);
        van.pass(1);
        due("ice of insulation 7", van.box(0, ICE), 98572);
        due("ice of insulation 100", van.box(1, ICE), 99900);
        due("ice of insulation 1", van.box(2, ICE), 90000);
        due("what went off", van.account(3), 11528);
        van.set(DryIceLane.RATE, 1000);
        due("going off at the rate 1000", van.box(0, GOING_OFF), 14285);
        van.set(DryIceLane.RATE, 1);
        due("going off at the rate 1", van.box(0, GOING_OFF), 14);
        van.set(DryIceLane.RATE, 0);
        due("going off at the rate 0", van.box(0, GOING_OFF), 0);
        van.pass(1);
        due("ice after a minute at the rate 0", van.box(0, ICE), 98572);
        due("what went off", van.account(3), 11528);
    }

    private static void noMoreThanThereIs() {
        DryIceLane van = opened();
        van.set(DryIceLane.LEAK, 0);
        van.set(DryIceLane.DOOR, 0);
        van.load(1, 0, 12345);
        van.load(1, 0, 0);
        van.pass(1);
        due("going off of the rest", van.box(0, GOING_OFF), 2345);
        van.pass(1);
        due("ice when all is off", van.box(0, ICE), 0);
        due("paper when all is off", van.box(0, PAPER), 0);
        due("going off of nothing", van.box(0, GOING_OFF), 0);
        van.pass(1);
        due("what went off", van.account(3), 12345);
        due("gas", van.van(GAS), 12345);
    }

    private static void paperGoesOffToo() {
        DryIceLane van = opened();
        van.load(1, 0, 25000);
        van.spill(0, 10000);
        van.pass(1);
        due("ice", van.box(0, ICE), 5000);
        due("paper", van.box(0, PAPER), 15000);
        van.pass(1);
        due("ice", van.box(0, ICE), 0);
        due("paper: only 5000 went off", van.box(0, PAPER), 10000);
        due("check", van.check(0), 10000);
    }

    private static void temperatureFollowsOutside() {
        DryIceLane van = new DryIceLane();
        van.leg(3, -1000);
        van.leg(3, 5000);
        van.depart();
        van.pass(1);
        due("T by -3000 / 20", van.van(TEMPERATURE), 1850);
        van.pass(1);
        due("T by -2850 / 20, toward 0", van.van(TEMPERATURE), 1708);
        van.set(DryIceLane.SLOW, 7);
        van.pass(1);
        due("T by -2708 / 7", van.van(TEMPERATURE), 1322);
        van.set(DryIceLane.SLOW, 1);
        van.pass(1);
        due("T at once at SLOW 1", van.van(TEMPERATURE), -1000);
        van.depart();
        van.set(DryIceLane.SLOW, 200);
        van.pass(1);
        due("T by 6000 / 200", van.van(TEMPERATURE), -970);
    }

    private static void openVentAndDoorMixTheAir() {
        DryIceLane van = new DryIceLane();
        van.leg(1, -1000);
        van.depart();
        van.vent(DryIceLane.OPEN);
        van.pass(1);
        // 2000, by -150 and by -142
        due("T with an open vent", van.van(TEMPERATURE), 1708);
        van.open();
        van.pass(1);
        // 1708, by -2708 / 20 = -135, by -2573 / 20 = -128, by -2445 / 4 = -611
        due("T with an open vent and door", van.van(TEMPERATURE), 834);
        van.vent(DryIceLane.SHUT);
        van.pass(1);
        // 834, by -1834 / 20 = -91, by -1743 / 4 = -435
        due("T with an open door", van.van(TEMPERATURE), 308);
    }

    private static void iceCools() {
        DryIceLane van = new DryIceLane();
        van.open();
        van.load(1, 0, 1000000);
        van.load(3, 0, 1000000);
        van.shut();
        van.set(DryIceLane.COOL, 1000);
        van.pass(1);
        // 10000 + 3333 go off together: 13333 / 1000
        due("T cooled by 13", van.van(TEMPERATURE), 1987);
        van.pass(1);
        // 9987 + 3329 go off; 1987 by 13 / 20 = 0, then by 13
        due("T cooled by 13 again", van.van(TEMPERATURE), 1974);
        due("what went off", van.account(3), 13333 + 9987 + 3329);
    }

    private static void iceCoolsToALimit() {
        DryIceLane van = new DryIceLane();
        van.open();
        van.load(1, 0, 1000000);
        van.shut();
        van.set(DryIceLane.COOL, 1);
        van.pass(1);
        due("T at the limit", van.van(TEMPERATURE), -7900);
        due("going off at the limit", van.box(0, GOING_OFF), 100);
        van.pass(1);
        // -7900 by 9900 / 20 = 495, then by -100
        due("T off the limit", van.van(TEMPERATURE), -7505);
        due("ice", van.box(0, ICE), 989900);
        van.set(DryIceLane.SLOW, 200);
        van.pass(1);
        // 495 go off; -7505 by 9505 / 200 = 47 is -7458, then by -442 only
        due("T at the limit again", van.van(TEMPERATURE), -7900);
        due("ice", van.box(0, ICE), 989405);
    }

    private static void gasIsLost() {
        DryIceLane van = withGas(99999);
        due("gas", van.van(GAS), 99999);
        van.set(DryIceLane.LEAK, 5);
        van.pass(1);
        due("gas by 499", van.van(GAS), 99500);
        van.vent(DryIceLane.OPEN);
        van.set(DryIceLane.VENT, 100);
        van.pass(1);
        // 99500 by 497, then 99003 by 9900
        due("gas by leak and vent", van.van(GAS), 89103);
        van.open();
        van.set(DryIceLane.DOOR, 300);
        van.pass(1);
        // 89103 by 445, 88658 by 8865, 79793 by 23937
        due("gas by leak, vent and door", van.van(GAS), 55856);
        van.vent(DryIceLane.SHUT);
        van.pass(1);
        // 55856 by 279, 55577 by 16673
        due("gas by leak and door", van.van(GAS), 38904);
        van.shut();
        van.set(DryIceLane.LEAK, 100);
        van.pass(1);
        due("gas by the most leak", van.van(GAS), 35014);
    }

    private static void ventHasAHysteresis() {
        DryIceLane van = withGas(20000);
        van.set(DryIceLane.OPENS, 10001);
        van.pass(1);
        due("vent a little under OPENS", van.van(VENT_OPEN), 0);
        van.set(DryIceLane.OPENS, 10000);
        van.set(DryIceLane.SHUTS, 9999);
        van.set(DryIceLane.HOLD, 3);
        due("vent before the minute", van.van(VENT_OPEN), 0);
        van.pass(1);
        due("vent at OPENS", van.van(VENT_OPEN), 1);
        due("minutes when it opens", van.van(VENT_MINUTES), 0);
        van.pass(4);
        due("vent over SHUTS", van.van(VENT_OPEN), 1);
        due("minutes", van.van(VENT_MINUTES), 4);
        van.set(DryIceLane.SHUTS, 10000);
        van.set(DryIceLane.OPENS, 50000);
        van.pass(1);
        due("vent at SHUTS", van.van(VENT_OPEN), 0);
        due("minutes of a shut vent", van.van(VENT_MINUTES), 0);
        van.pass(2);
        due("vent that stays shut", van.van(VENT_OPEN), 0);
        van.set(DryIceLane.OPENS, 10000);
        van.pass(3);
        due("vent before it has counted HOLD", van.van(VENT_OPEN), 1);
        due("minutes before HOLD", van.van(VENT_MINUTES), 2);
        van.pass(1);
        due("vent when it has counted HOLD", van.van(VENT_OPEN), 0);
        van.set(DryIceLane.HOLD, 0);
        van.pass(1);
        due("vent opens at HOLD 0", van.van(VENT_OPEN), 1);
        van.pass(1);
        due("vent shuts a minute later", van.van(VENT_OPEN), 0);
    }

    private static void ventCountsInAutoOnly() {
        DryIceLane van = withGas(20000);
        van.set(DryIceLane.SHUTS, 0);
        van.vent(DryIceLane.OPEN);
        van.pass(5);
        due("minutes in the mode OPEN", van.van(VENT_MINUTES), 0);
        van.vent(DryIceLane.AUTO);
        van.pass(3);
        due("minutes in the mode AUTO", van.van(VENT_MINUTES), 3);
        van.vent(DryIceLane.OPEN);
        due("minutes that an open vent keeps", van.van(VENT_MINUTES), 3);
        van.pass(2);
        due("minutes in the mode OPEN again", van.van(VENT_MINUTES), 3);
        van.vent(DryIceLane.AUTO);
        van.set(DryIceLane.SHUTS, 50000);
        van.set(DryIceLane.HOLD, 5);
        van.pass(1);
        due("vent after 4 minutes", van.van(VENT_OPEN), 1);
        van.pass(1);
        due("vent after 5 minutes", van.van(VENT_OPEN), 0);
    }

    /** The vent that opens in a minute lets no gas out before the next one. */
    private static void ventIsMovedLast() {
        DryIceLane van = withGas(20000);
        van.set(DryIceLane.VENT, 500);
        van.set(DryIceLane.OPENS, 1);
        van.set(DryIceLane.SHUTS, 50000);
        van.set(DryIceLane.HOLD, 1);
        van.pass(1);
        due("gas when the vent opens", van.van(GAS), 20000);
        van.pass(1);
        due("gas when it has been open", van.van(GAS), 10000);
        due("vent", van.van(VENT_OPEN), 0);
        van.set(DryIceLane.OPENS, 50000);
        van.pass(1);
        due("gas when it is shut", van.van(GAS), 10000);
    }

    private static void alarms() {
        DryIceLane van = withGas(20000);
        van.open();
        van.set(DryIceLane.SAFE, 10001);
        van.pass(2);
        due("alarms a little under SAFE", van.van(ALARMS), 0);
        van.set(DryIceLane.SAFE, 10000);
        van.pass(3);
        due("alarms at SAFE", van.van(ALARMS), 3);
        van.shut();
        van.pass(2);
        due("alarms behind a shut door", van.van(ALARMS), 3);
        van.set(DryIceLane.SAFE, 50000);
        van.open();
        van.set(DryIceLane.SAFE, 10000);
        van.set(DryIceLane.DOOR, 1);
        van.pass(1);
        due("alarms count behind the loss of gas", van.van(ALARMS), 3);
    }
}
