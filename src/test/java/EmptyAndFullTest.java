/** An empty and a full lane, route and pad, boxes without ice, and slots in which nothing was saved. */
final class EmptyAndFullTest extends Checks {
    public static void main(String[] args) {
        emptyLane();
        emptiedLane();
        boxesWithoutIce();
        oneBox();
        fullLane();
        fullLaneGetsRoom();
        allThatBoxesCanHave();
        emptyRoute();
        fullRoute();
        fullRouteIsDriven();
        fullRouteGetsRoom();
        routeGrowsAtItsEnd();
        emptyPad();
        fullPad();
        fullPadIsRead();
        emptySlots();
        emptyVanIsSaved();
        end();
    }

    private static void emptyLane() {
        DryIceLane van = opened();
        laneIsEmpty(van);
        van.pass(1000);
        due("T without ice", van.van(TEMPERATURE), 2000);
        due("gas without ice", van.van(GAS), 0);
        due("what went off without ice", van.account(3), 0);
        due("worst without ice", van.worst(1000), 0);
        due("purge without ice", van.purge(1000), 0);
    }

    private static void emptiedLane() {
        DryIceLane van = opened();
        van.load(1, 1, 1000);
        van.load(2, 2, 1000);
        van.unload(0);
        van.unload(0);
        laneIsEmpty(van);
        due("load into the emptied lane", van.load(3, 4, 5), 0);
        due("its insulation", van.box(0, INSULATION), 3);
        due("its tare", van.box(0, TARE), 4);
        due("its ice", van.box(0, ICE), 5);
        due("its paper", van.box(0, PAPER), 5);
    }

    private static void laneIsEmpty(DryIceLane van) {
        due("boxes of an empty lane", van.van(BOXES), 0);
        refused("unload", van, () -> van.unload(0), NO_SUCH);
        refused("shift", van, () -> van.shift(0, 0), NO_SUCH);
        refused("sell", van, () -> van.sell(1), NOT_POSSIBLE);
        refused("spill", van, () -> van.spill(0, 1), NO_SUCH);
        refused("weigh", van, () -> van.weigh(0), NO_SUCH);
        refused("check", van, () -> van.check(0), NO_SUCH - GONE);
        refused("box", van, () -> van.box(0, 0), NO_SUCH);
        refused("atEnd", van, () -> van.atEnd(0, 0), NO_SUCH);
        refused("front", van, () -> van.front(1, 1), NOT_POSSIBLE);
        due("ice of no boxes", van.account(0), 0);
    }

    private static void boxesWithoutIce() {
        DryIceLane van = opened();
        van.load(1, 9, 0);
        van.load(1, 8, 0);
        due("ice of empty boxes", van.account(0), 0);
        due("weigh of an empty box", van.weigh(0), 9);
        due("check of an empty box", van.check(0), 0);
        due("going off of an empty box", van.box(0, GOING_OFF), 0);
        due("atEnd of an empty box", van.atEnd(0, 100), 0);
        refused("sell from empty boxes", van, () -> van.sell(1), NOT_POSSIBLE);
        refused("spill of an empty box", van, () -> van.spill(0, 1), BAD_VALUE);
        refused("front of empty boxes", van, () -> van.front(1, 1), NOT_POSSIBLE);
        van.pass(10);
        due("what went off", van.account(3), 0);
        due("shift of an empty box", van.shift(0, 1), 0);
        due("unload of an empty box", van.unload(1), 0);
        due("what was taken out", van.account(2), 0);
        due("boxes", van.van(BOXES), 1);
    }

    private static void oneBox() {
        DryIceLane van = opened();
        van.load(50, 7, 1000);
        due("shift of the only box", van.shift(0, 0), 1000);
        due("front of the only box", van.front(1000, 1), 0);
        due("sell of its last ice", van.sell(1000), 1);
        refused("sell of no more", van, () -> van.sell(1), NOT_POSSIBLE);
        due("weigh of the box that was sold out", van.weigh(0), 7);
    }

    private static void fullLane() {
        DryIceLane van = packed();
        due("boxes of a full lane", van.van(BOXES), 10);
        refused("load into a full lane", van, () -> van.load(1, 1, 1), TOO_MANY);
        due("weigh of the last box", van.weigh(9), 9 + 1000009);
        due("ice of all", van.account(0), 10000045);
        refused("box behind the last one", van, () -> van.box(10, 0), NO_SUCH);
        due("sell from all boxes", van.sell(9000037), 10);
        due("ice that is left in the last one", van.box(9, ICE), 10000045 - 9000037);
        due("shift from the last place to the front", van.shift(9, 0), 1000008);
        due("tare at the front", van.box(0, TARE), 9);
        due("tare at the last place", van.box(9, TARE), 8);
        due("shift from the front to the last place", van.shift(0, 9), 1000008);
        for (int box = 0; box < 10; box++) {
            due("tare of box " + box + " in the old order", van.box(box, TARE), box);
        }
    }

    private static void fullLaneGetsRoom() {
        DryIceLane van = packed();
        due("unload of the first box", van.unload(0), 1000000);
        for (int box = 0; box < 9; box++) {
            due("insulation of box " + box, van.box(box, INSULATION), 11 + box);
            due("tare of box " + box, van.box(box, TARE), 1 + box);
            due("ice of box " + box, van.box(box, ICE), 1000001 + box);
            due("paper of box " + box, van.box(box, PAPER), 1000001 + box);
        }
        due("load into the place that is free", van.load(99, 98, 97), 9);
        refused("load into the lane that is full again", van, () -> van.load(1, 1, 1), TOO_MANY);
        due("unload of the last box", van.unload(9), 97);
        due("load again", van.load(1, 1, 1), 9);
    }

    private static void allThatBoxesCanHave() {
        DryIceLane van = opened();
        for (int i = 0; i < 10; i++) {
            van.load(100, 5000000, 20000000);
        }
        due("ice of ten full boxes", van.account(0), 200000000);
        due("what was put in", van.account(1), 200000000);
        due("weigh of the heaviest box", van.weigh(9), 25000000);
        due("front of ten boxes that are alike", van.front(50000000, 100), 0);
        due("sell from full boxes", van.sell(50000000), 3);
        due("spill of a full box", van.spill(3, 20000000), 0);
        due("check of a full box", van.check(3), 20000000);
    }

    private static void emptyRoute() {
        DryIceLane van = opened();
        van.load(50, 0, 1000);
        van.shut();
        due("legs", van.van(LEGS), 0);
        due("latest leg", van.van(LATEST_LEG), NONE - GONE);
        due("minutes left", van.van(MINUTES_LEFT), 0);
        refused("cut", van, van::cut, NOT_POSSIBLE);
        refused("depart", van, van::depart, NOT_POSSIBLE);
        refused("way", van, () -> van.way(0, 0), NO_SUCH - GONE);
        due("atEnd: the van is at the end already", van.atEnd(0, 100), 1000);
        due("pass at the start", van.pass(3), 0);
        due("weigh: the start is a stop", van.weigh(0), 400);
        due("check: the start is a stop", van.check(0), 0);
        due("open: the start is a stop", van.open(), van.van(CONCENTRATION));
    }

    private static void fullRoute() {
        DryIceLane van = packed();
        due("legs of a full route", van.van(LEGS), 12);
        refused("leg", van, () -> van.leg(1, 1), TOO_MANY);
        due("duration of the last leg", van.way(11, 0), 12);
        due("outside of the last leg", van.way(11, 1), 1100);
        refused("way behind the last leg", van, () -> van.way(12, 0), NO_SUCH - GONE);
        van.wipe();
        write(van, "1@1");
        refused("read of one leg", van, van::read, TOO_MANY);
        for (int left = 11; left >= 0; left--) {
            due("cut", van.cut(), left);
        }
        refused("cut of the emptied route", van, van::cut, NOT_POSSIBLE);
        refused("depart on the emptied route", van, van::depart, NOT_POSSIBLE);
        due("latest leg of the emptied route", van.van(LATEST_LEG), NONE - GONE);
    }

    private static void fullRouteIsDriven() {
        DryIceLane van = packed();
        van.shut();
        int late = van.atEnd(9, 2);
        for (int leg = 0; leg < 12; leg++) {
            due("depart on leg " + leg, van.depart(), leg);
            due("outside on leg " + leg, van.van(OUTSIDE), 100 * leg);
            due("minutes left on leg " + leg, van.van(MINUTES_LEFT), 1 + leg);
            due("pass of leg " + leg, van.pass(leg < 11 ? 3 + leg : 12), 1 + leg);
            due("latest leg at its stop", van.van(LATEST_LEG), leg);
        }
        due("ice at the end", van.box(9, ICE), late);
        refused("depart behind the last leg", van, van::depart, NOT_POSSIBLE);
        refused("cut of the last leg, which has begun", van, van::cut, NOT_POSSIBLE);
        due("time", van.van(TIME), 12 * 13 / 2 + 22);
    }

    private static void fullRouteGetsRoom() {
        DryIceLane van = packed();
        due("cut", van.cut(), 11);
        van.wipe();
        write(van, "600@-40");
        due("read into the place that is free", van.read(), 12);
        due("its duration", van.way(11, 0), 600);
        due("its outside temperature", van.way(11, 1), -4000);
        due("cut of it", van.cut(), 11);
        due("leg into the place that is free", van.leg(5, 6), 11);
        refused("leg into the route that is full again", van, () -> van.leg(1, 1), TOO_MANY);
    }

    private static void routeGrowsAtItsEnd() {
        DryIceLane van = onTheWay(1, 2000);
        van.pass(1);
        refused("depart at the last stop", van, van::depart, NOT_POSSIBLE);
        due("leg at the last stop", van.leg(3, 1000), 1);
        due("outside before it begins", van.van(OUTSIDE), 2000);
        due("depart on it", van.depart(), 1);
        due("outside then", van.van(OUTSIDE), 1000);
        van.pass(3);
        write(van, "4@50");
        due("read at the last stop", van.read(), 3);
        due("depart on what was read", van.depart(), 2);
        due("its minutes", van.van(MINUTES_LEFT), 4);
        due("its outside temperature", van.van(OUTSIDE), 5000);
    }

    private static void emptyPad() {
        DryIceLane van = used();
        due("length", van.van(PAD_LENGTH), 0);
        due("fault: no leg has begun", van.fault(), 0);
        refused("read", van, van::read, BAD_TEXT);
        refused("wipe", van, van::wipe, 0);
    }

    private static void fullPad() {
        DryIceLane van = packed();
        due("length", van.van(PAD_LENGTH), 80);
        due("fault of a full pad", van.fault(), NONE);
        refused("say", van, () -> van.say(','), TOO_MANY);
        refused("say of what would be wrong", van, () -> van.say('!'), TOO_MANY);
        due("wipe", van.wipe(), 80);
        due("fault of the emptied pad", van.fault(), 0);
        due("say on the emptied pad", van.say('5'), 1);
        due("fault of the new text", van.fault(), 1);
    }

    private static void fullPadIsRead() {
        DryIceLane van = packed();
        van.restore(0);
        due("read of 80 characters", van.read(), 11);
        for (int leg = 0; leg < 11; leg++) {
            due("duration of leg " + leg, van.way(leg, 0), 600);
            due("outside of leg " + leg, van.way(leg, 1), leg < 4 ? -4000 : 5000);
        }
        due("length", van.van(PAD_LENGTH), 0);
        // 20 legs are the most that a pad has room for
        write(van, "1@0" + ",1@0".repeat(19));
        due("fault of 20 legs", van.fault(), NONE);
        refused("read of 20 legs", van, van::read, TOO_MANY);
        van.restore(0);
        refused("read of 20 legs into an empty route", van, van::read, TOO_MANY);
    }

    private static void emptySlots() {
        DryIceLane van = used();
        refused("restore(0)", van, () -> van.restore(0), NOT_POSSIBLE);
        refused("restore(1)", van, () -> van.restore(1), NOT_POSSIBLE);
        van.save(1);
        refused("restore(0) when 1 is full", van, () -> van.restore(0), NOT_POSSIBLE);
        van.restore(1);
        refused("restore(0) when 1 was restored", van, () -> van.restore(0), NOT_POSSIBLE);
        van.save(0);
        due("restore(0) when it is full", van.restore(0), van.van(TIME));
    }

    /** What was saved of a new van takes everything away again. */
    private static void emptyVanIsSaved() {
        DryIceLane van = new DryIceLane();
        long[] before = picture(van);
        due("save of a new van", van.save(0), 0);
        van.set(DryIceLane.SAFE, 50000);
        van.open();
        for (int i = 0; i < 10; i++) {
            van.load(1, 1, 1000000);
        }
        van.pass(2);
        van.vent(DryIceLane.OPEN);
        van.sell(1);
        van.spill(9, 1);
        van.unload(0);
        van.shut();
        van.leg(10, 10);
        van.depart();
        van.pass(2);
        due("restore of a new van", van.restore(0), 0);
        same("restore of a new van", before, picture(van));
        laneIsEmptyAndShut(van);
    }

    private static void laneIsEmptyAndShut(DryIceLane van) {
        refused("load", van, () -> van.load(1, 1, 1), NOT_POSSIBLE);
        due("open", van.open(), 0);
        laneIsEmpty(van);
    }
}
