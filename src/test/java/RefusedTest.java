/**
 * CONVENTIONS: a method that fails changes nothing, and of its errors the first that applies is returned. Each error of
 * each method is here, and each two of one method that can apply together.
 */
final class RefusedTest extends Checks {
    public static void main(String[] args) {
        load();
        unloadAndShift();
        set();
        legAndCut();
        departAndPass();
        ventOpenAndShut();
        sellAndSpill();
        weighAndCheck();
        numbers();
        forecasts();
        texts();
        slots();
        noneIsNoError();
        end();
    }

    private static void load() {
        leavesAll("load, value", Checks::busy, van -> van.load(101, 1, 1), BAD_VALUE);
        leavesAll("load, too many", Checks::packed, van -> van.load(1, 1, 1), TOO_MANY);
        leavesAll("load, door", Checks::busyAndShut, van -> van.load(1, 1, 1), NOT_POSSIBLE);
        leavesAll("load, door, on the way", Checks::busyOnTheWay, van -> van.load(1, 1, 1), NOT_POSSIBLE);
        leavesAll("load, value before too many", Checks::packed, van -> van.load(1, -1, 1), BAD_VALUE);
        leavesAll("load, value before door", Checks::busyAndShut, van -> van.load(1, 1, -1), BAD_VALUE);
        leavesAll("load, too many before door", RefusedTest::packedAndShut, van -> van.load(1, 1, 1), TOO_MANY);
        leavesAll("load, value before all", RefusedTest::packedAndShut, van -> van.load(0, 1, 1), BAD_VALUE);
    }

    private static void unloadAndShift() {
        leavesAll("unload, no box", Checks::busy, van -> van.unload(2), NO_SUCH);
        leavesAll("unload, door", Checks::busyAndShut, van -> van.unload(1), NOT_POSSIBLE);
        leavesAll("unload, door, on the way", Checks::busyOnTheWay, van -> van.unload(1), NOT_POSSIBLE);
        leavesAll("unload, no box before door", Checks::busyAndShut, van -> van.unload(2), NO_SUCH);
        leavesAll("shift, no box", Checks::busy, van -> van.shift(2, 0), NO_SUCH);
        leavesAll("shift, no place", Checks::busy, van -> van.shift(0, 2), NO_SUCH);
        leavesAll("shift, neither", Checks::busy, van -> van.shift(2, 2), NO_SUCH);
    }

    private static void set() {
        leavesAll("set, no setting", Checks::busy, van -> van.set(11, 1), BAD_VALUE);
        leavesAll("set, value", Checks::busy, van -> van.set(10, 0), BAD_VALUE);
        leavesAll("set, neither", Checks::busy, van -> van.set(-1, -1), BAD_VALUE);
    }

    private static void legAndCut() {
        leavesAll("leg, minutes", Checks::busy, van -> van.leg(601, 0), BAD_VALUE);
        leavesAll("leg, outside", Checks::busy, van -> van.leg(1, 5001), BAD_VALUE);
        leavesAll("leg, too many", Checks::packed, van -> van.leg(1, 0), TOO_MANY);
        leavesAll("leg, value before too many", Checks::packed, van -> van.leg(1, -4001), BAD_VALUE);
        leavesAll("cut of none", DryIceLane::new, DryIceLane::cut, NOT_POSSIBLE);
        leavesAll("cut of the leg that the van is on", RefusedTest::onItsLastLeg, DryIceLane::cut, NOT_POSSIBLE);
        leavesAll("cut of the leg at whose stop the van is", RefusedTest::atItsLastStop, DryIceLane::cut, NOT_POSSIBLE);
    }

    private static void departAndPass() {
        leavesAll("depart on the way", Checks::busyOnTheWay, DryIceLane::depart, NOT_POSSIBLE);
        leavesAll("depart with an open door", Checks::busy, DryIceLane::depart, NOT_POSSIBLE);
        leavesAll("depart without legs", DryIceLane::new, DryIceLane::depart, NOT_POSSIBLE);
        leavesAll("depart at the last stop", RefusedTest::atItsLastStop, DryIceLane::depart, NOT_POSSIBLE);
        leavesAll("depart on the last leg", RefusedTest::onItsLastLeg, DryIceLane::depart, NOT_POSSIBLE);
        leavesAll("pass, value", Checks::busyOnTheWay, van -> van.pass(1001), BAD_VALUE);
        leavesAll("pass, time", RefusedTest::atLastMinute, van -> van.pass(2), NOT_POSSIBLE);
        leavesAll("pass, value before time", RefusedTest::atLastMinute, van -> van.pass(1001), BAD_VALUE);
    }

    private static void ventOpenAndShut() {
        leavesAll("vent, value", Checks::busy, van -> van.vent(3), BAD_VALUE);
        leavesAll("open on the way", Checks::busyOnTheWay, DryIceLane::open, NOT_POSSIBLE);
        leavesAll("open with an open door", Checks::busy, DryIceLane::open, NOT_POSSIBLE);
        leavesAll("shut with a shut door", Checks::busyAndShut, DryIceLane::shut, NOT_POSSIBLE);
        leavesAll("shut on the way", Checks::busyOnTheWay, DryIceLane::shut, NOT_POSSIBLE);
    }

    private static void sellAndSpill() {
        leavesAll("sell, value", Checks::busy, van -> van.sell(0), BAD_VALUE);
        leavesAll("sell, door", Checks::busyAndShut, van -> van.sell(1), NOT_POSSIBLE);
        leavesAll("sell, ice", Checks::busy, van -> van.sell((int) van.account(0) + 1), NOT_POSSIBLE);
        leavesAll("sell, value before door", Checks::busyAndShut, van -> van.sell(50000001), BAD_VALUE);
        leavesAll("sell, value before ice", Checks::busy, van -> van.sell(50000001), BAD_VALUE);
        leavesAll("sell, door and ice", Checks::busyAndShut, van -> van.sell(50000000), NOT_POSSIBLE);
        leavesAll("spill, no box", Checks::busy, van -> van.spill(2, 1), NO_SUCH);
        leavesAll("spill, value", Checks::busy, van -> van.spill(1, 0), BAD_VALUE);
        leavesAll("spill, ice", Checks::busy, van -> van.spill(1, van.box(1, ICE) + 1), BAD_VALUE);
        leavesAll("spill, no box before value", Checks::busy, van -> van.spill(2, 0), NO_SUCH);
        leavesAll("spill, no box before value", Checks::busy, van -> van.spill(-1, 20000001), NO_SUCH);
    }

    private static void weighAndCheck() {
        leavesAll("weigh, no box", Checks::busy, van -> van.weigh(2), NO_SUCH);
        leavesAll("weigh, way", Checks::busyOnTheWay, van -> van.weigh(1), NOT_POSSIBLE);
        leavesAll("weigh, no box before way", Checks::busyOnTheWay, van -> van.weigh(2), NO_SUCH);
        leavesAll("check, no box", Checks::busy, van -> van.check(2), NO_SUCH - GONE);
        leavesAll("check, way", Checks::busyOnTheWay, van -> van.check(1), NOT_POSSIBLE - GONE);
        leavesAll("check, no box before way", Checks::busyOnTheWay, van -> van.check(2), NO_SUCH - GONE);
    }

    private static void numbers() {
        leavesAll("box, no box", Checks::busy, van -> van.box(2, 0), NO_SUCH);
        leavesAll("box, value", Checks::busy, van -> van.box(1, 5), BAD_VALUE);
        leavesAll("box, no box before value", Checks::busy, van -> van.box(2, 5), NO_SUCH);
        leavesAll("van, value", Checks::busy, van -> van.van(26), BAD_VALUE - GONE);
        leavesAll("way, no leg", Checks::busy, van -> van.way(4, 0), NO_SUCH - GONE);
        leavesAll("way, value", Checks::busy, van -> van.way(3, 2), BAD_VALUE - GONE);
        leavesAll("way, no leg before value", Checks::busy, van -> van.way(4, 2), NO_SUCH - GONE);
        leavesAll("account, value", Checks::busy, van -> van.account(6), BAD_VALUE);
    }

    private static void forecasts() {
        leavesAll("atEnd, no box", Checks::busy, van -> van.atEnd(2, 0), NO_SUCH);
        leavesAll("atEnd, value", Checks::busy, van -> van.atEnd(1, 101), BAD_VALUE);
        leavesAll("atEnd, no box before value", Checks::busy, van -> van.atEnd(2, 101), NO_SUCH);
        leavesAll("worst, value", Checks::busy, van -> van.worst(1001), BAD_VALUE);
        leavesAll("purge, value", Checks::busy, van -> van.purge(1001), BAD_VALUE);
        leavesAll("front, ice", Checks::busy, van -> van.front(0, 1), BAD_VALUE);
        leavesAll("front, minutes", Checks::busy, van -> van.front(1, 101), BAD_VALUE);
        leavesAll("front, no ice", Checks::busy, van -> van.front((int) van.account(0) + 1, 1), NOT_POSSIBLE);
        leavesAll("front, ice before no ice", Checks::busy, van -> van.front(50000001, 1), BAD_VALUE);
        leavesAll("front, minutes before no ice", Checks::busy, van -> van.front(50000000, 0), BAD_VALUE);
        leavesAll("front, both before no ice", DryIceLane::new, van -> van.front(0, 0), BAD_VALUE);
    }

    private static void texts() {
        leavesAll("say, value", Checks::busy, van -> van.say(127), BAD_VALUE);
        leavesAll("say, too many", Checks::packed, van -> van.say('1'), TOO_MANY);
        leavesAll("say, value before too many", Checks::packed, van -> van.say(32), BAD_VALUE);
        leavesAll("read, empty text", DryIceLane::new, DryIceLane::read, BAD_TEXT);
        leavesAll("read, text", RefusedTest::withBadText, DryIceLane::read, BAD_TEXT);
        leavesAll("read, too many", Checks::packed, DryIceLane::read, TOO_MANY);
        leavesAll("read, text before too many", RefusedTest::packedWithBadText, DryIceLane::read, BAD_TEXT);
    }

    private static void slots() {
        leavesAll("save, value", Checks::busy, van -> van.save(2), BAD_VALUE);
        leavesAll("restore, value", Checks::busy, van -> van.restore(2), BAD_VALUE);
        leavesAll("restore, nothing saved", Checks::busy, van -> van.restore(1), NOT_POSSIBLE);
        leavesAll("restore, value before nothing saved", DryIceLane::new, van -> van.restore(-1), BAD_VALUE);
    }

    /** NONE is returned only if no error applies. */
    private static void noneIsNoError() {
        due("open with much gas at a stop", tooMuchGas().open(), NONE);
        leavesAll("open with much gas on the way", RefusedTest::tooMuchGasOnTheWay, DryIceLane::open, NOT_POSSIBLE);
        leavesAll("open of an open door with much gas", Checks::busy, DryIceLane::open, NOT_POSSIBLE);
        due("purge in too few minutes", tooMuchGas().purge(1), NONE);
        leavesAll("purge, value, in too few minutes", RefusedTest::tooMuchGas, van -> van.purge(0), BAD_VALUE);
        due("van(9) without a begun leg", new DryIceLane().van(LATEST_LEG), NONE - GONE);
        due("van(-9) without a begun leg", new DryIceLane().van(-9), BAD_VALUE - GONE);
    }

    private static DryIceLane packedAndShut() {
        DryIceLane van = packed();
        van.shut();
        return van;
    }

    private static DryIceLane onItsLastLeg() {
        DryIceLane van = onTheWay(20, 1000);
        van.save(0);
        van.save(1);
        van.pass(5);
        return van;
    }

    private static DryIceLane atItsLastStop() {
        DryIceLane van = onTheWay(20, 1000);
        van.save(0);
        van.pass(25);
        return van;
    }

    /** A van on the way at the time 99999. */
    private static DryIceLane atLastMinute() {
        DryIceLane van = opened();
        van.save(0);
        van.load(100, 1, 20000000);
        van.shut();
        van.leg(600, 3000);
        for (int i = 0; i < 99; i++) {
            van.pass(1000);
        }
        van.pass(989);
        van.depart();
        van.pass(10);
        return van;
    }

    private static DryIceLane withBadText() {
        DryIceLane van = busy();
        van.say(',');
        return van;
    }

    private static DryIceLane packedWithBadText() {
        DryIceLane van = packed();
        van.wipe();
        write(van, "5@5,");
        return van;
    }

    private static DryIceLane tooMuchGas() {
        DryIceLane van = withGas(20000);
        van.set(DryIceLane.SAFE, 10000);
        return van;
    }

    private static DryIceLane tooMuchGasOnTheWay() {
        DryIceLane van = tooMuchGas();
        van.leg(20, 0);
        van.depart();
        return van;
    }
}
