/** Promises 1 to 5: a new object, load, unload, shift, set. */
final class BoxesTest extends Checks {
    private static final int[] LEAST = {0, 1, 0, 0, 0, 1, 0, 0, 1, 1, 1};
    private static final int[] MOST = {1000, 100, 500, 100, 900, 50000, 50000, 100, 50000, 200, 100000};
    private static final int[] FIRST = {100, 10, 100, 5, 300, 5000, 1000, 5, 5000, 20, 5000};

    public static void main(String[] args) {
        newObject();
        objectsAreApart();
        load();
        loadRefused();
        unload();
        shift();
        set();
        setRefused();
        Checks.end();
    }

    private static void newObject() {
        DryIceLane van = new DryIceLane();
        int[] first = {0, 2000, 2000, 0, 0, 0, 0, 0, 0, NONE - GONE, 0, 0, 0, 0, 0};
        for (int what = 0; what < first.length; what++) {
            due("van(" + what + ") of a new object", van.van(what), first[what]);
        }
        for (int setting = 0; setting < FIRST.length; setting++) {
            due("van(" + (15 + setting) + ") of a new object", van.van(15 + setting), FIRST[setting]);
        }
        for (int what = 0; what < 6; what++) {
            due("account(" + what + ") of a new object", van.account(what), 0);
        }
        due("restore(0) of a new object", van.restore(0), NOT_POSSIBLE);
        due("restore(1) of a new object", van.restore(1), NOT_POSSIBLE);
        due("fault() of a new object", van.fault(), 0);
    }

    private static void objectsAreApart() {
        DryIceLane one = Checks.opened();
        one.load(10, 20, 30);
        one.leg(5, 6);
        one.say('1');
        one.save(0);
        DryIceLane other = new DryIceLane();
        due("boxes of another object", other.van(BOXES), 0);
        due("legs of another object", other.van(LEGS), 0);
        due("pad of another object", other.van(PAD_LENGTH), 0);
        due("COOL of another object", other.van(25), 5000);
        due("slot of another object", other.restore(0), NOT_POSSIBLE);
    }

    private static void load() {
        DryIceLane van = Checks.opened();
        due("load of the least", van.load(1, 0, 0), 0);
        due("load of the most", van.load(100, 5000000, 20000000), 1);
        due("load of a third", van.load(7, 8, 9), 2);
        boxIs(van, 0, 1, 0, 0, 0);
        boxIs(van, 1, 100, 5000000, 20000000, 20000000);
        boxIs(van, 2, 7, 8, 9, 9);
        due("what was put in", van.account(1), 20000009);
        due("boxes", van.van(BOXES), 3);
        for (int i = 3; i < 10; i++) {
            due("load of box " + i, van.load(1, i, 10 * i), i);
            boxIs(van, i, 1, i, 10 * i, 10 * i);
        }
        due("what was put in", van.account(1), 20000009 + 10 * (3 + 4 + 5 + 6 + 7 + 8 + 9));
        due("load of the eleventh", van.load(1, 0, 0), TOO_MANY);
        van.unload(4);
        due("load behind the others again", van.load(2, 3, 4), 9);
        boxIs(van, 9, 2, 3, 4, 4);
        boxIs(van, 8, 1, 9, 90, 90);
    }

    private static void loadRefused() {
        DryIceLane van = Checks.opened();
        refused("load, insulation 0", van, () -> van.load(0, 0, 0), BAD_VALUE);
        refused("load, insulation 101", van, () -> van.load(101, 0, 0), BAD_VALUE);
        refused("load, least insulation", van, () -> van.load(Integer.MIN_VALUE, 0, 0), BAD_VALUE);
        refused("load, tare -1", van, () -> van.load(1, -1, 0), BAD_VALUE);
        refused("load, tare 5000001", van, () -> van.load(1, 5000001, 0), BAD_VALUE);
        refused("load, ice -1", van, () -> van.load(1, 0, -1), BAD_VALUE);
        refused("load, ice 20000001", van, () -> van.load(1, 0, 20000001), BAD_VALUE);
        for (int i = 0; i < 10; i++) {
            van.load(1, 0, 0);
        }
        refused("load, value before too many", van, () -> van.load(0, 0, 0), BAD_VALUE);
        refused("load, too many", van, () -> van.load(1, 0, 0), TOO_MANY);
        van.shut();
        refused("load, too many before the door", van, () -> van.load(1, 0, 0), TOO_MANY);
        DryIceLane closed = new DryIceLane();
        refused("load, value before the door", closed, () -> closed.load(1, 0, -1), BAD_VALUE);
        refused("load, door shut", closed, () -> closed.load(1, 0, 0), NOT_POSSIBLE);
    }

    private static void unload() {
        DryIceLane van = threeBoxes();
        van.spill(1, 500);
        due("unload in the middle", van.unload(1), 1500);
        due("boxes", van.van(BOXES), 2);
        boxIs(van, 0, 10, 11, 1000, 1000);
        boxIs(van, 1, 30, 31, 3000, 3000);
        due("what was taken out", van.account(2), 1500);
        refused("unload behind the last one", van, () -> van.unload(2), NO_SUCH);
        refused("unload -1", van, () -> van.unload(-1), NO_SUCH);
        due("unload of the last one", van.unload(1), 3000);
        due("unload of the only one", van.unload(0), 1000);
        due("what was taken out", van.account(2), 5500);
        due("what was put in", van.account(1), 6000);
        refused("unload of none", van, () -> van.unload(0), NO_SUCH);
        due("load into the empty lane", van.load(5, 6, 7), 0);
        boxIs(van, 0, 5, 6, 7, 7);
        van.shut();
        refused("unload, door shut", van, () -> van.unload(0), NOT_POSSIBLE);
        refused("unload, no box before the door", van, () -> van.unload(1), NO_SUCH);
    }

    private static void shift() {
        DryIceLane van = threeBoxes();
        van.load(40, 41, 4000);
        van.shut();
        due("shift to the back, door shut", van.shift(0, 2), 1000);
        insulations(van, 20, 30, 10, 40);
        due("shift to the front", van.shift(3, 0), 4000);
        insulations(van, 40, 20, 30, 10);
        due("shift to its own place", van.shift(1, 1), 2000);
        insulations(van, 40, 20, 30, 10);
        due("shift to the next place", van.shift(1, 2), 2000);
        insulations(van, 40, 30, 20, 10);
        due("shift to the last place", van.shift(0, 3), 4000);
        insulations(van, 30, 20, 10, 40);
        boxIs(van, 3, 40, 41, 4000, 4000);
        van.spill(0, 1000);
        due("shift of a box that has lost ice", van.shift(0, 1), 2000);
        boxIs(van, 1, 30, 31, 2000, 3000);
        refused("shift of no box", van, () -> van.shift(4, 0), NO_SUCH);
        refused("shift of -1", van, () -> van.shift(-1, 0), NO_SUCH);
        refused("shift to no box", van, () -> van.shift(0, 4), NO_SUCH);
        refused("shift to -1", van, () -> van.shift(0, -1), NO_SUCH);
    }

    private static void set() {
        for (int setting = 0; setting < FIRST.length; setting++) {
            DryIceLane van = new DryIceLane();
            due("set(" + setting + ", least)", van.set(setting, LEAST[setting]), FIRST[setting]);
            due("van(" + (15 + setting) + ")", van.van(15 + setting), LEAST[setting]);
            due("set(" + setting + ", most)", van.set(setting, MOST[setting]), LEAST[setting]);
            due("set(" + setting + ", most) again", van.set(setting, MOST[setting]), MOST[setting]);
            for (int other = 0; other < FIRST.length; other++) {
                due("van(" + (15 + other) + ")", van.van(15 + other), other == setting ? MOST[other] : FIRST[other]);
            }
        }
    }

    private static void setRefused() {
        DryIceLane van = new DryIceLane();
        for (int i = 0; i < FIRST.length; i++) {
            int setting = i;
            refused("set(" + i + "), too little", van, () -> van.set(setting, LEAST[setting] - 1), BAD_VALUE);
            refused("set(" + i + "), too much", van, () -> van.set(setting, MOST[setting] + 1), BAD_VALUE);
        }
        refused("set(-1)", van, () -> van.set(-1, 1), BAD_VALUE);
        refused("set(11)", van, () -> van.set(11, 1), BAD_VALUE);
        refused("set(most int)", van, () -> van.set(Integer.MAX_VALUE, 1), BAD_VALUE);
    }

    private static DryIceLane threeBoxes() {
        DryIceLane van = Checks.opened();
        van.load(10, 11, 1000);
        van.load(20, 21, 2000);
        van.load(30, 31, 3000);
        return van;
    }

    private static void insulations(DryIceLane van, int... insulations) {
        for (int box = 0; box < insulations.length; box++) {
            due("insulation of box " + box, van.box(box, INSULATION), insulations[box]);
        }
    }

    private static void boxIs(DryIceLane van, int box, int insulation, int tare, int ice, int paper) {
        due("insulation of box " + box, van.box(box, INSULATION), insulation);
        due("tare of box " + box, van.box(box, TARE), tare);
        due("ice of box " + box, van.box(box, ICE), ice);
        due("paper of box " + box, van.box(box, PAPER), paper);
    }
}
