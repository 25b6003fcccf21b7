/** Promises 13 to 16: sell, spill, weigh, check. */
final class SellTest extends Checks {
    public static void main(String[] args) {
        sell();
        sellSkipsEmptyBoxes();
        sellRefused();
        spill();
        spillRefused();
        weigh();
        check();
        checkRefused();
        end();
    }

    private static void sell() {
        DryIceLane van = boxes(1000, 2000, 3000);
        due("sell from the first box", van.sell(400), 1);
        boxIs(van, 0, 600, 600);
        due("sell the rest of the first box", van.sell(600), 1);
        boxIs(van, 0, 0, 0);
        due("sell from two boxes", van.sell(2001), 2);
        boxIs(van, 1, 0, 0);
        boxIs(van, 2, 2999, 2999);
        due("what was sold", van.account(4), 3001);
        due("sell all", van.sell(2999), 1);
        due("what is left", van.account(0), 0);
        due("what was sold", van.account(4), 6000);
        due("boxes", van.van(BOXES), 3);
        DryIceLane other = boxes(1, 1, 1);
        due("sell from all boxes", other.sell(3), 3);
        DryIceLane spilled = boxes(1000, 1000);
        spilled.spill(0, 300);
        due("sell of a box that has lost ice", spilled.sell(800), 2);
        boxIs(spilled, 0, 0, 300);
        boxIs(spilled, 1, 900, 900);
        DryIceLane many = boxes(20000000, 20000000, 20000000);
        due("sell the most", many.sell(50000000), 3);
        boxIs(many, 2, 10000000, 10000000);
    }

    private static void sellSkipsEmptyBoxes() {
        DryIceLane van = boxes(0, 500, 0, 700, 900);
        due("sell past empty boxes", van.sell(600), 2);
        boxIs(van, 1, 0, 0);
        boxIs(van, 3, 600, 600);
        boxIs(van, 4, 900, 900);
    }

    private static void sellRefused() {
        DryIceLane van = boxes(1000, 2000);
        refused("sell(0)", van, () -> van.sell(0), BAD_VALUE);
        refused("sell(-1)", van, () -> van.sell(-1), BAD_VALUE);
        refused("sell(50000001)", van, () -> van.sell(50000001), BAD_VALUE);
        refused("sell more than there is", van, () -> van.sell(3001), NOT_POSSIBLE);
        refused("sell the most of little", van, () -> van.sell(50000000), NOT_POSSIBLE);
        van.shut();
        refused("sell, door shut", van, () -> van.sell(1), NOT_POSSIBLE);
        refused("sell, value before the door", van, () -> van.sell(0), BAD_VALUE);
        van.open();
        due("sell just what there is", van.sell(3000), 2);
        refused("sell of nothing", van, () -> van.sell(1), NOT_POSSIBLE);
    }

    private static void spill() {
        DryIceLane van = boxes(1000, 20000000);
        van.shut();
        due("spill", van.spill(0, 1), 999);
        boxIs(van, 0, 999, 1000);
        due("spill all", van.spill(0, 999), 0);
        boxIs(van, 0, 0, 1000);
        due("spill the most", van.spill(1, 20000000), 0);
        due("what was spilled", van.account(5), 20001000);
        due("what is left", van.account(0), 0);
        DryIceLane driving = onTheWay(5, 0);
        due("spill on the way", driving.spill(0, 10), 999990);
    }

    private static void spillRefused() {
        DryIceLane van = boxes(1000, 20000000);
        refused("spill of no box", van, () -> van.spill(2, 1), NO_SUCH);
        refused("spill of -1", van, () -> van.spill(-1, 1), NO_SUCH);
        refused("spill, no box before the value", van, () -> van.spill(2, 0), NO_SUCH);
        refused("spill(0, 0)", van, () -> van.spill(0, 0), BAD_VALUE);
        refused("spill(0, -1)", van, () -> van.spill(0, -1), BAD_VALUE);
        refused("spill more than it has", van, () -> van.spill(0, 1001), BAD_VALUE);
        refused("spill too much", van, () -> van.spill(1, 20000001), BAD_VALUE);
    }

    private static void weigh() {
        DryIceLane van = opened();
        van.load(50, 5000000, 20000000);
        van.load(50, 300, 0);
        due("weigh", van.weigh(0), 25000000);
        due("weigh an empty box", van.weigh(1), 300);
        van.spill(0, 1);
        due("weigh after a spill", van.weigh(0), 24999999);
        refused("weigh no box", van, () -> van.weigh(2), NO_SUCH);
        refused("weigh -1", van, () -> van.weigh(-1), NO_SUCH);
        van.shut();
        due("weigh behind a shut door", van.weigh(1), 300);
        DryIceLane driving = onTheWay(5, 2000);
        refused("weigh on the way", driving, () -> driving.weigh(0), NOT_POSSIBLE);
        refused("weigh, no box before the way", driving, () -> driving.weigh(1), NO_SUCH);
        driving.pass(4);
        refused("weigh a minute before the stop", driving, () -> driving.weigh(0), NOT_POSSIBLE);
        driving.pass(1);
        due("weigh at the stop", driving.weigh(0), 1000 + 1000000 - 5 * 200);
    }

    private static void check() {
        DryIceLane van = boxes(100000, 100000);
        due("check of a new box", van.check(0), 0);
        van.spill(0, 700);
        van.spill(0, 50);
        van.pass(3);
        van.sell(10);
        due("check", van.check(0), 750);
        boxIs(van, 0, 100000 - 750 - 3 * 200 - 10, 100000 - 750 - 3 * 200 - 10);
        due("check again", van.check(0), 0);
        due("check of the other box", van.check(1), 0);
        van.spill(1, 99000);
        van.shut();
        due("check behind a shut door", van.check(1), 99000);
    }

    private static void checkRefused() {
        DryIceLane van = onTheWay(2, 2000);
        van.spill(0, 5);
        refused("check of no box", van, () -> van.check(1), NO_SUCH - GONE);
        refused("check of -1", van, () -> van.check(-1), NO_SUCH - GONE);
        refused("check on the way", van, () -> van.check(0), NOT_POSSIBLE - GONE);
        van.pass(1);
        refused("check a minute before the stop", van, () -> van.check(0), NOT_POSSIBLE - GONE);
        van.pass(1);
        due("check at the stop", van.check(0), 5);
    }

    /** An open van with boxes of the insulation 50, from which 200 go off in a minute. */
    private static DryIceLane boxes(int... ice) {
        DryIceLane van = opened();
        for (int amount : ice) {
            van.load(50, 0, amount);
        }
        return van;
    }

    private static void boxIs(DryIceLane van, int box, int ice, int paper) {
        due("ice of box " + box, van.box(box, ICE), ice);
        due("paper of box " + box, van.box(box, PAPER), paper);
    }
}
