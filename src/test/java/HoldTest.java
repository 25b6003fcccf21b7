/** Promises 10 to 12: vent, open, shut. */
final class HoldTest extends Checks {
    public static void main(String[] args) {
        vent();
        ventRefused();
        open();
        openRefused();
        openVentsInstead();
        openVentsInTheModeShut();
        openKeepsTheCount();
        openAtTheBoundsOfSafe();
        openInTheModeOpen();
        sameModeSetsTheVentAgain();
        autoLeavesTheVentAsItIs();
        shut();
        shutWithMuchGas();
        end();
    }

    private static void vent() {
        DryIceLane van = new DryIceLane();
        due("vent(AUTO)", van.vent(DryIceLane.AUTO), DryIceLane.AUTO);
        due("vent stays shut", van.van(VENT_OPEN), 0);
        due("vent(OPEN)", van.vent(DryIceLane.OPEN), DryIceLane.AUTO);
        due("vent opens at once", van.van(VENT_OPEN), 1);
        due("mode", van.van(VENT_MODE), DryIceLane.OPEN);
        due("vent(AUTO)", van.vent(DryIceLane.AUTO), DryIceLane.OPEN);
        due("vent stays open", van.van(VENT_OPEN), 1);
        due("mode", van.van(VENT_MODE), DryIceLane.AUTO);
        van.pass(2);
        due("minutes", van.van(VENT_MINUTES), 2);
        due("vent(SHUT)", van.vent(DryIceLane.SHUT), DryIceLane.AUTO);
        due("vent shuts at once", van.van(VENT_OPEN), 0);
        due("minutes of a shut vent", van.van(VENT_MINUTES), 0);
        due("mode", van.van(VENT_MODE), DryIceLane.SHUT);
        due("vent(SHUT) again", van.vent(DryIceLane.SHUT), DryIceLane.SHUT);
        due("vent(OPEN)", van.vent(DryIceLane.OPEN), DryIceLane.SHUT);
        due("minutes of a vent that opens", van.van(VENT_MINUTES), 0);
        van.pass(100);
        due("vent stays open in the mode OPEN", van.van(VENT_OPEN), 1);
    }

    private static void ventRefused() {
        DryIceLane van = new DryIceLane();
        van.vent(DryIceLane.OPEN);
        refused("vent(-1)", van, () -> van.vent(-1), BAD_VALUE);
        refused("vent(3)", van, () -> van.vent(3), BAD_VALUE);
    }

    private static void open() {
        DryIceLane van = withGas(20001);
        van.set(DryIceLane.SAFE, 10001);
        due("open a little under SAFE", van.open(), 10000);
        due("door", van.van(DOOR_OPEN), 1);
        due("vent", van.van(VENT_OPEN), 0);
        DryIceLane wide = withGas(20001);
        wide.set(DryIceLane.VOLUME, 100);
        due("open of a great volume", wide.open(), 100);
        DryIceLane atStop = onTheWay(5, 0);
        atStop.pass(5);
        due("open at a stop", atStop.open(), atStop.van(CONCENTRATION));
        due("door at a stop", atStop.van(DOOR_OPEN), 1);
    }

    private static void openRefused() {
        DryIceLane van = onTheWay(5, 0);
        refused("open on the way", van, van::open, NOT_POSSIBLE);
        van.pass(4);
        van.set(DryIceLane.SAFE, 1);
        van.set(DryIceLane.VOLUME, 1);
        refused("open on the way with much gas", van, van::open, NOT_POSSIBLE);
        van.pass(1);
        due("open with much gas", van.open(), NONE);
        DryIceLane opened = opened();
        refused("open of an open door", opened, opened::open, NOT_POSSIBLE);
        DryIceLane gassed = withGas(20000);
        gassed.open();
        gassed.set(DryIceLane.SAFE, 1);
        refused("open of an open door with much gas", gassed, gassed::open, NOT_POSSIBLE);
    }

    private static void openVentsInstead() {
        DryIceLane van = withGas(20000);
        van.set(DryIceLane.SAFE, 10000);
        van.set(DryIceLane.SHUTS, 0);
        due("open at SAFE", van.open(), NONE);
        due("door", van.van(DOOR_OPEN), 0);
        due("vent", van.van(VENT_OPEN), 1);
        due("minutes", van.van(VENT_MINUTES), 0);
        due("mode", van.van(VENT_MODE), DryIceLane.AUTO);
        van.pass(3);
        due("vent goes on in the mode AUTO", van.van(VENT_OPEN), 1);
        due("minutes", van.van(VENT_MINUTES), 3);
    }

    private static void openVentsInTheModeShut() {
        DryIceLane van = withGas(20000);
        van.set(DryIceLane.SAFE, 10000);
        van.set(DryIceLane.VENT, 100);
        van.vent(DryIceLane.SHUT);
        due("open at SAFE in the mode SHUT", van.open(), NONE);
        due("vent", van.van(VENT_OPEN), 1);
        due("mode", van.van(VENT_MODE), DryIceLane.SHUT);
        van.pass(1);
        due("vent after a minute", van.van(VENT_OPEN), 0);
        due("gas that the minute vented", van.van(GAS), 18000);
        van.pass(1);
        due("gas of a shut vent", van.van(GAS), 18000);
        due("open after that", van.open(), 9000);
    }

    private static void openKeepsTheCount() {
        DryIceLane van = withGas(20000);
        van.set(DryIceLane.SAFE, 10000);
        van.set(DryIceLane.SHUTS, 0);
        van.set(DryIceLane.OPENS, 1);
        van.pass(4);
        due("minutes", van.van(VENT_MINUTES), 3);
        refused("open with an open vent", van, van::open, NONE);
        due("minutes that an open vent keeps", van.van(VENT_MINUTES), 3);
    }

    private static void openAtTheBoundsOfSafe() {
        DryIceLane van = withGas(1);
        van.set(DryIceLane.SAFE, 1);
        due("open at the concentration 0 of the gas 1", van.open(), 0);
        DryIceLane little = withGas(2);
        little.set(DryIceLane.SAFE, 1);
        due("open at the least SAFE", little.open(), NONE);
        due("door", little.van(DOOR_OPEN), 0);
        due("open again: the door was shut", little.open(), NONE);
        DryIceLane much = withGas(99999);
        due("open a little under the most SAFE", much.open(), 49999);
        due("alarms of a door that is opened", much.van(ALARMS), 0);
    }

    private static void openInTheModeOpen() {
        DryIceLane van = withGas(20000);
        van.set(DryIceLane.SAFE, 10000);
        van.set(DryIceLane.SHUTS, 0);
        van.vent(DryIceLane.OPEN);
        van.vent(DryIceLane.AUTO);
        van.pass(2);
        van.vent(DryIceLane.OPEN);
        refused("open at SAFE in the mode OPEN", van, van::open, NONE);
        due("vent", van.van(VENT_OPEN), 1);
        due("minutes", van.van(VENT_MINUTES), 2);
    }

    /** Each call that sets a mode, also the one that there is already, sets the vent at once. */
    private static void sameModeSetsTheVentAgain() {
        DryIceLane van = withGas(20000);
        van.set(DryIceLane.SAFE, 10000);
        van.vent(DryIceLane.SHUT);
        van.open();
        due("vent that was opened in the mode SHUT", van.van(VENT_OPEN), 1);
        due("vent(SHUT) in the mode SHUT", van.vent(DryIceLane.SHUT), DryIceLane.SHUT);
        due("vent is shut at once", van.van(VENT_OPEN), 0);
        van.vent(DryIceLane.OPEN);
        van.pass(3);
        due("vent(OPEN) in the mode OPEN", van.vent(DryIceLane.OPEN), DryIceLane.OPEN);
        due("vent stays open", van.van(VENT_OPEN), 1);
        due("minutes", van.van(VENT_MINUTES), 0);
    }

    private static void autoLeavesTheVentAsItIs() {
        DryIceLane van = withGas(20000);
        van.set(DryIceLane.SAFE, 10000);
        van.set(DryIceLane.SHUTS, 0);
        van.vent(DryIceLane.SHUT);
        due("vent(AUTO) with a shut vent", van.vent(DryIceLane.AUTO), DryIceLane.SHUT);
        due("vent", van.van(VENT_OPEN), 0);
        van.vent(DryIceLane.SHUT);
        van.open();
        due("vent(AUTO) with a vent that was opened in the mode SHUT", van.vent(DryIceLane.AUTO), DryIceLane.SHUT);
        due("vent", van.van(VENT_OPEN), 1);
        van.pass(2);
        due("vent goes on", van.van(VENT_OPEN), 1);
        due("minutes", van.van(VENT_MINUTES), 2);
        due("vent(AUTO) in the mode AUTO", van.vent(DryIceLane.AUTO), DryIceLane.AUTO);
        due("vent", van.van(VENT_OPEN), 1);
        due("minutes that it keeps", van.van(VENT_MINUTES), 2);
        van.vent(DryIceLane.SHUT);
        van.vent(DryIceLane.OPEN);
        due("minutes when it opens again", van.van(VENT_MINUTES), 0);
    }

    private static void shutWithMuchGas() {
        DryIceLane van = withGas(0);
        van.open();
        van.load(1, 0, 200001);
        van.pass(3);
        due("shut with more than the most SAFE", van.shut(), 100000);
        due("alarms", van.van(ALARMS), 3);
        due("open then", van.open(), NONE);
    }

    private static void shut() {
        DryIceLane van = withGas(20000);
        refused("shut of a shut door", van, van::shut, NOT_POSSIBLE);
        van.open();
        van.set(DryIceLane.SAFE, 1);
        due("shut", van.shut(), 10000);
        due("door", van.van(DOOR_OPEN), 0);
        refused("shut again", van, van::shut, NOT_POSSIBLE);
    }
}
