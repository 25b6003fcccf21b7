import java.util.List;
import java.util.function.Supplier;

/** Promises 21 to 24: atEnd, worst, purge, front. What can be done on a second van is done there and compared. */
final class ForecastTest extends Checks {
    public static void main(String[] args) {
        atEndByHand();
        atEndOnTheWay();
        atEndAtAStop();
        atEndWithoutLegs();
        atEndShutsTheDoor();
        atEndFromEverywhere();
        atEndHasNoEndOfTime();
        atEndRefused();
        worst();
        worstGoesOnAsItIs();
        worstInTheMiddle();
        worstHasNoEndOfTime();
        worstRefused();
        purge();
        purgeOfTheMostMinutes();
        purgeAtTheBoundsOfSafe();
        purgeHasNoEndOfTime();
        purgeWithAllThatGoesOn();
        purgeRefused();
        front();
        frontOfSeveral();
        frontAtTheBoundsOfIce();
        frontHasNoEndOfTime();
        frontAsItIs();
        frontRefused();
        forecastsChangeNothing();
        end();
    }

    private static void atEndByHand() {
        DryIceLane van = opened();
        van.load(50, 0, 100000);
        van.load(100, 0, 100000);
        van.shut();
        van.leg(10, 2000);
        van.leg(20, 2000);
        van.leg(30, 2000);
        // T stays 2000, so 200 and 100 go off in a minute; it waits at the stops of the legs 0 and 1
        due("atEnd without a wait", van.atEnd(0, 0), 100000 - 200 * 60);
        due("atEnd with waits of 7", van.atEnd(0, 7), 100000 - 200 * (60 + 14));
        due("atEnd of the other box", van.atEnd(1, 7), 100000 - 100 * (60 + 14));
        due("atEnd with the longest waits", van.atEnd(0, 100), 100000 - 200 * 260);
        van.depart();
        van.pass(4);
        due("atEnd on the way", van.atEnd(0, 7), 100000 - 200 * (60 + 14));
        van.pass(6);
        due("atEnd at the first stop", van.atEnd(0, 7), 100000 - 200 * (60 + 7));
        van.depart();
        van.pass(20);
        van.depart();
        due("atEnd on the last leg", van.atEnd(0, 100), 100000 - 200 * 60);
        van.pass(30);
        due("atEnd at the end", van.atEnd(0, 100), 100000 - 200 * 60);
    }

    private static void atEndOnTheWay() {
        DryIceLane van = route();
        DryIceLane driven = route();
        van.pass(3);
        driven.pass(10);
        driven.pass(9);
        driven.depart();
        driven.pass(20);
        driven.pass(9);
        driven.depart();
        driven.pass(15);
        for (int box = 0; box < 3; box++) {
            asks(van, "atEnd of box " + box, van.atEnd(box, 9), driven.box(box, ICE));
        }
    }

    private static void atEndAtAStop() {
        DryIceLane van = route();
        DryIceLane driven = route();
        van.pass(30);
        driven.pass(30);
        driven.depart();
        driven.pass(20);
        driven.pass(50);
        driven.depart();
        driven.pass(15);
        due("atEnd from a stop", van.atEnd(1, 50), driven.box(1, ICE));
    }

    private static void atEndWithoutLegs() {
        DryIceLane van = opened();
        van.load(50, 0, 100000);
        due("atEnd without legs", van.atEnd(0, 100), 100000);
    }

    private static void atEndShutsTheDoor() {
        DryIceLane van = route();
        van.set(DryIceLane.SAFE, 50000);
        van.pass(15);
        DryIceLane driven = route();
        driven.pass(15);
        van.open();
        due("door", van.van(DOOR_OPEN), 1);
        driven.depart();
        driven.pass(20);
        driven.depart();
        driven.pass(15);
        long[] before = picture(van);
        due("atEnd with an open door", van.atEnd(2, 0), driven.box(2, ICE));
        same("atEnd with an open door", before, picture(van));
    }

    /** The forecast from the start, from each minute of each leg, and from each stop is what comes when it is driven. */
    private static void atEndFromEverywhere() {
        for (int wait : new int[] {0, 1, 100}) {
            for (int minute = 0; minute <= 15; minute++) {
                DryIceLane van = threeLegs();
                goTo(van, minute);
                DryIceLane driven = threeLegs();
                goTo(driven, minute);
                driveToEnd(driven, wait);
                due("atEnd with waits of " + wait + " from minute " + minute, van.atEnd(1, wait), driven.box(1, ICE));
            }
        }
    }

    private static DryIceLane threeLegs() {
        DryIceLane van = opened();
        van.load(1, 0, 50000);
        van.load(3, 0, 5000000);
        van.shut();
        van.leg(5, 5000);
        van.leg(1, -4000);
        van.leg(4, 3000);
        return van;
    }

    /** Passes minutes without a wait, but at the start, where the first of them passes. */
    private static void goTo(DryIceLane van, int minutes) {
        for (int i = 0; i < minutes; i++) {
            if (i > 0) {
                van.depart();
            }
            van.pass(1);
        }
    }

    private static void driveToEnd(DryIceLane van, int wait) {
        boolean reachesStop = van.van(MINUTES_LEFT) > 0;
        for (int leg = van.van(LATEST_LEG); leg < van.van(LEGS); leg = van.van(LATEST_LEG)) {
            if (van.van(MINUTES_LEFT) > 0) {
                van.pass(van.van(MINUTES_LEFT));
            }
            if (leg == van.van(LEGS) - 1) {
                return;
            }
            if (reachesStop && wait > 0) {
                van.pass(wait);
            }
            van.depart();
            reachesStop = true;
        }
    }

    private static void atEndHasNoEndOfTime() {
        DryIceLane van = opened();
        van.set(DryIceLane.RATE, 0);
        for (int i = 0; i < 100; i++) {
            van.pass(1000);
        }
        van.set(DryIceLane.RATE, 100);
        van.load(100, 0, 20000000);
        van.shut();
        for (int i = 0; i < 12; i++) {
            van.leg(600, 2000);
        }
        due("atEnd behind the end of time", van.atEnd(0, 100), 20000000 - 100 * (12 * 600 + 11 * 100));
        due("worst behind the end of time", van.worst(1000) > 0 ? 1 : 0, 1);
    }

    private static void atEndRefused() {
        DryIceLane van = onTheWay(5, 0);
        refused("atEnd of no box", van, () -> van.atEnd(1, 0), NO_SUCH);
        refused("atEnd of -1", van, () -> van.atEnd(-1, 0), NO_SUCH);
        refused("atEnd, wait -1", van, () -> van.atEnd(0, -1), BAD_VALUE);
        refused("atEnd, wait 101", van, () -> van.atEnd(0, 101), BAD_VALUE);
        refused("atEnd, no box before the value", van, () -> van.atEnd(1, 101), NO_SUCH);
    }

    private static void worst() {
        DryIceLane van = withGas(50000);
        van.set(DryIceLane.LEAK, 100);
        due("worst when gas only leaks: behind the first minute", van.worst(10), 22500);
        van.set(DryIceLane.LEAK, 0);
        due("worst when nothing changes", van.worst(1000), 25000);
        van.set(DryIceLane.VOLUME, 10);
        due("worst in a greater volume", van.worst(1), 2500);
        due("worst of a new object", new DryIceLane().worst(5), 0);
    }

    private static void worstGoesOnAsItIs() {
        DryIceLane van = route();
        van.set(DryIceLane.OPENS, 300);
        van.set(DryIceLane.VENT, 500);
        for (int minutes = 1; minutes <= 30; minutes += 7) {
            asks(van, "worst(" + minutes + ")", van.worst(minutes), worstByPassing(minutes));
        }
        DryIceLane opened = opened();
        opened.load(1, 0, 1000000);
        // 10000 go off: by 50, by 2985; and so on, to less than 10000 * 0.7 / 0.3
        due("worst with an open door", opened.worst(1), (10000 - 50 - 2985) / 20);
        due("door stays open", opened.worst(1000) < 1200 ? 1 : 0, 1);
    }

    private static int worstByPassing(int minutes) {
        DryIceLane van = route();
        van.set(DryIceLane.OPENS, 300);
        van.set(DryIceLane.VENT, 500);
        int greatest = 0;
        for (int i = 0; i < minutes; i++) {
            van.pass(1);
            greatest = Math.max(greatest, van.van(CONCENTRATION));
        }
        return greatest;
    }

    /** The gas behind the next minutes is 9000, 17100, and then less again. */
    private static void worstInTheMiddle() {
        DryIceLane van = opened();
        van.load(1, 0, 20000);
        van.shut();
        van.vent(DryIceLane.SHUT);
        van.set(DryIceLane.VOLUME, 1);
        van.set(DryIceLane.LEAK, 100);
        due("worst(1)", van.worst(1), 4500);
        due("worst(2)", van.worst(2), 8550);
        due("worst(3)", van.worst(3), 8550);
        due("worst(1000)", van.worst(1000), 8550);
        van.pass(2);
        due("worst: what there is now does not count", van.worst(1000), 7695);
    }

    private static void worstHasNoEndOfTime() {
        DryIceLane van = atTheEndOfTime(opened());
        van.load(100, 0, 20000000);
        van.shut();
        van.vent(DryIceLane.SHUT);
        van.set(DryIceLane.VOLUME, 1);
        van.set(DryIceLane.LEAK, 0);
        // the gas grows by 100 in each minute
        due("worst behind the end of time", van.worst(1000), 50000);
        refused("pass at the end of time", van, () -> van.pass(1), NOT_POSSIBLE);
    }

    private static DryIceLane atTheEndOfTime(DryIceLane van) {
        for (int i = 0; i < 100; i++) {
            van.pass(Math.min(1000, 100000 - van.van(TIME)));
        }
        due("time", van.van(TIME), 100000);
        return van;
    }

    private static void worstRefused() {
        DryIceLane van = onTheWay(5, 0);
        refused("worst(0)", van, () -> van.worst(0), BAD_VALUE);
        refused("worst(-1)", van, () -> van.worst(-1), BAD_VALUE);
        refused("worst(1001)", van, () -> van.worst(1001), BAD_VALUE);
    }

    private static void purge() {
        DryIceLane van = withGas(80000);
        van.set(DryIceLane.VENT, 500);
        van.set(DryIceLane.SAFE, 40001);
        due("purge when it is safe", van.purge(1), 0);
        van.set(DryIceLane.SAFE, 40000);
        due("purge at SAFE", van.purge(1), 1);
        // 40000, 20000, 10000, 5000, 2500
        van.set(DryIceLane.SAFE, 2501);
        due("purge to 2500", van.purge(1000), 4);
        due("purge to 2500 in at most 4", van.purge(4), 4);
        asks(van, "purge to 2500 in at most 3", van.purge(3), NONE);
        van.set(DryIceLane.SAFE, 2500);
        due("purge to less than 2500", van.purge(1000), 5);
        van.vent(DryIceLane.SHUT);
        asks(van, "purge with a shut vent", van.purge(1000), 5);
        van.set(DryIceLane.SAFE, 50000);
        van.open();
        van.set(DryIceLane.DOOR, 900);
        van.set(DryIceLane.SAFE, 2500);
        asks(van, "purge with an open door", van.purge(1000), 5);
        van.set(DryIceLane.VENT, 0);
        asks(van, "purge without a way out", van.purge(1000), NONE);
    }

    /** 1999 of gas leak, 1 in a minute, and less than 1000 of it are safe. */
    private static DryIceLane leaking() {
        DryIceLane van = withGas(1999);
        van.set(DryIceLane.SAFE, 500);
        return van;
    }

    private static void purgeOfTheMostMinutes() {
        DryIceLane van = leaking();
        van.set(DryIceLane.LEAK, 1);
        due("purge of 1000 in at most 1000", van.purge(1000), 1000);
        due("purge of 1000 in at most 999", van.purge(999), NONE);
        van.pass(1);
        due("purge of 999 in at most 1000", van.purge(1000), 999);
        due("purge of 999 in at most 999", van.purge(999), 999);
        due("purge of 999 in at most 998", van.purge(998), NONE);
        van.pass(997);
        due("purge of 2 in at most 1", van.purge(1), NONE);
        van.pass(1);
        due("purge of 1 in at most 1", van.purge(1), 1);
        van.pass(1);
        due("purge of 0 in at most 1", van.purge(1), 0);
    }

    private static void purgeAtTheBoundsOfSafe() {
        DryIceLane none = withGas(1);
        none.set(DryIceLane.SAFE, 1);
        due("purge at 0, SAFE 1", none.purge(1), 0);
        DryIceLane little = withGas(2);
        little.set(DryIceLane.SAFE, 1);
        little.set(DryIceLane.VENT, 500);
        due("purge at 1, SAFE 1", little.purge(1), 1);
        DryIceLane much = withGas(99999);
        due("purge at 49999, SAFE 50000", much.purge(1), 0);
        much.open();
        much.load(1, 0, 1);
        much.pass(1);
        much.set(DryIceLane.VENT, 1);
        due("purge at 50000, SAFE 50000", much.purge(1), 1);
        due("door is still open", much.van(DOOR_OPEN), 1);
    }

    private static void purgeHasNoEndOfTime() {
        DryIceLane van = atTheEndOfTime(leaking());
        van.set(DryIceLane.LEAK, 1);
        due("purge behind the end of time", van.purge(1000), 1000);
    }

    private static void purgeWithAllThatGoesOn() {
        DryIceLane van = gassed();
        DryIceLane passed = gassed();
        passed.vent(DryIceLane.OPEN);
        int minutes = 0;
        while (passed.van(CONCENTRATION) >= 5000 && minutes < 1000) {
            passed.pass(1);
            minutes++;
        }
        due("minutes are some", minutes > 1 ? 1 : 0, 1);
        asks(van, "purge on the way", van.purge(1000), minutes);
    }

    /** A van on the way with too much gas and a vent in the mode AUTO that would not open. */
    private static DryIceLane gassed() {
        DryIceLane van = opened();
        van.set(DryIceLane.OPENS, 50000);
        van.set(DryIceLane.SAFE, 50000);
        van.load(1, 0, 400000);
        van.shut();
        van.pass(20);
        van.set(DryIceLane.SAFE, 5000);
        van.leg(5, 4000);
        van.depart();
        van.pass(2);
        return van;
    }

    private static void purgeRefused() {
        DryIceLane van = onTheWay(5, 0);
        refused("purge(0)", van, () -> van.purge(0), BAD_VALUE);
        refused("purge(-1)", van, () -> van.purge(-1), BAD_VALUE);
        refused("purge(1001)", van, () -> van.purge(1001), BAD_VALUE);
    }

    private static void front() {
        DryIceLane van = opened();
        van.load(100, 0, 50000);
        van.load(1, 0, 50000);
        van.load(10, 0, 50000);
        van.shut();
        // what is sold from the worst insulation can't go off
        asks(van, "front", van.front(50000, 5), 1);
        van.unload(1);
        van.open();
        van.unload(1);
        due("front of two boxes", van.front(50000, 5), 1);
        DryIceLane alike = opened();
        alike.load(20, 0, 50000);
        alike.load(20, 0, 50000);
        due("front of boxes that are alike", alike.front(1000, 100), 0);
        alike.load(10, 0, 100);
        due("front of a box that goes off whole", alike.front(100, 1), 2);
        due("front when all is sold", alike.front(100100, 1), 0);
        DryIceLane one = opened();
        one.load(20, 0, 50000);
        due("front of the only box", one.front(50000, 1), 0);
    }

    /** What little there is in a box goes off whole in 100 minutes, so it is better sold before. */
    private static void frontOfSeveral() {
        due("front of three that are alike", lane(5000, 5000, 5000).front(1000, 100), 0);
        due("front of two that are best", lane(1000000, 5000, 5000).front(1000, 100), 1);
        due("front of the last one", lane(1000000, 1000000, 5000).front(1000, 100), 2);
        due("front of the middle one", lane(1000000, 5000, 1000000).front(1000, 100), 1);
        due("front of the first and the last one", lane(5000, 1000000, 5000).front(1000, 100), 0);
        due("front of ten", lane(20000, 20000, 20000, 20000, 20000, 20000, 20000, 20000, 20000, 5000).front(1, 100), 9);
    }

    private static void frontAtTheBoundsOfIce() {
        due("front of the last milligram", lane(0, 1).front(1, 100), 0);
        due("front of nothing but empty boxes before it", lane(0, 0, 20000).front(20000, 1), 0);
        DryIceLane van = lane(20000000, 20000000, 20000000);
        due("front of the most", van.front(50000000, 100), 0);
        DryIceLane just = lane(20000000, 20000000, 10000000);
        due("front of the most, which is all", just.front(50000000, 1), 0);
        just.spill(2, 1);
        refused("front of the most, which is more than all", just, () -> just.front(50000000, 1), NOT_POSSIBLE);
    }

    private static void frontHasNoEndOfTime() {
        DryIceLane van = lane(1000000, 1000);
        van.set(DryIceLane.RATE, 0);
        atTheEndOfTime(van);
        van.set(DryIceLane.RATE, 100);
        due("front behind the end of time", van.front(500, 100), 1);
    }

    /** An open van whose boxes each lose 100 in a minute. */
    private static DryIceLane lane(int... ice) {
        DryIceLane van = opened();
        for (int amount : ice) {
            van.load(100, 0, amount);
        }
        return van;
    }

    /** The box that is put to the front leaves the others in their order, and the hold goes on as it is. */
    private static void frontAsItIs() {
        for (int open = 0; open < 2; open++) {
            for (int ice = 20000; ice <= 220000; ice += 40000) {
                DryIceLane van = mixed(open);
                asks(van, "front(" + ice + ", 40)", van.front(ice, 40), frontByTrying(open, ice, 40));
            }
        }
    }

    private static int frontByTrying(int open, int ice, int minutes) {
        int best = -1;
        long most = -1;
        for (int box = 0; box < 4; box++) {
            DryIceLane van = mixed(1);
            van.shift(box, 0);
            van.sell(ice);
            if (open == 0) {
                van.shut();
            }
            van.pass(minutes);
            if (van.account(0) > most) {
                best = box;
                most = van.account(0);
            }
        }
        return best;
    }

    private static DryIceLane mixed(int open) {
        DryIceLane van = new DryIceLane();
        van.leg(1, 4500);
        van.depart();
        van.pass(1);
        van.set(DryIceLane.COOL, 3);
        van.open();
        van.load(40, 0, 80000);
        van.load(3, 0, 60000);
        van.load(25, 0, 40000);
        van.load(2, 0, 55000);
        van.spill(1, 5000);
        if (open == 0) {
            van.shut();
        }
        return van;
    }

    private static void frontRefused() {
        DryIceLane van = opened();
        refused("front without boxes", van, () -> van.front(1, 1), NOT_POSSIBLE);
        van.load(20, 0, 1000);
        van.load(20, 0, 1000);
        refused("front, ice 0", van, () -> van.front(0, 1), BAD_VALUE);
        refused("front, ice 50000001", van, () -> van.front(50000001, 1), BAD_VALUE);
        refused("front, 0 minutes", van, () -> van.front(1, 0), BAD_VALUE);
        refused("front, 101 minutes", van, () -> van.front(1, 101), BAD_VALUE);
        refused("front, value before ice", van, () -> van.front(2001, 0), BAD_VALUE);
        refused("front of more than there is", van, () -> van.front(2001, 1), NOT_POSSIBLE);
        refused("front of all there is", van, () -> van.front(2000, 1), 0);
    }

    private static void forecastsChangeNothing() {
        for (Supplier<DryIceLane> maker : List.<Supplier<DryIceLane>>of(
                Checks::busy, Checks::busyAndShut, Checks::busyOnTheWay, Checks::packed)) {
            leavesAll("atEnd", maker, van -> van.atEnd(1, 50), maker.get().atEnd(1, 50));
            leavesAll("worst", maker, van -> van.worst(500), maker.get().worst(500));
            leavesAll("purge", maker, van -> van.purge(500), maker.get().purge(500));
            leavesAll("front", maker, van -> van.front(100000, 100), maker.get().front(100000, 100));
        }
    }

    /** A van on the way, with gas, three boxes and three legs, the first of 10 minutes. */
    private static DryIceLane route() {
        DryIceLane van = new DryIceLane();
        van.open();
        van.load(1, 10, 700000);
        van.load(5, 10, 600000);
        van.load(30, 10, 500000);
        van.shut();
        van.leg(10, 4000);
        van.leg(20, -3000);
        van.leg(15, 1000);
        van.depart();
        return van;
    }

    /** A forecast has its answer and leaves the van as it is. */
    private static void asks(DryIceLane van, String call, int got, int want) {
        due(call, got, want);
        long[] before = picture(van);
        van.atEnd(0, 3);
        van.worst(5);
        van.purge(5);
        van.front(1, 5);
        same(call + " and others", before, picture(van));
    }
}
