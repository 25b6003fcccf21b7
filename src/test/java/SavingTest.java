/** Promises 29 and 30: save, restore. */
final class SavingTest extends Checks {
    public static void main(String[] args) {
        restoreBringsAllBack();
        padIsNotSaved();
        slotsAreApart();
        slotsAreNotSaved();
        restoredGoesOnAlike();
        fullLaneAndRoute();
        refusals();
        end();
    }

    private static void restoreBringsAllBack() {
        DryIceLane van = used();
        long[] before = picture(van);
        due("save", van.save(0), van.van(TIME));
        same("save", before, picture(van));
        changeAll(van);
        differs("changeAll", before, picture(van), LEGS + 1);
        due("restore", van.restore(0), before[TIME]);
        same("restore", before, picture(van));
        changeAll(van);
        due("restore again: the slot keeps it", van.restore(0), before[TIME]);
        same("restore again", before, picture(van));
    }

    private static void padIsNotSaved() {
        DryIceLane van = new DryIceLane();
        write(van, "5@5");
        van.save(1);
        write(van, ",6@6");
        van.restore(1);
        due("length after restore", van.van(PAD_LENGTH), 7);
        due("read after restore", van.read(), 2);
        van.restore(1);
        due("length after restore", van.van(PAD_LENGTH), 0);
        due("legs after restore", van.van(LEGS), 0);
    }

    private static void slotsAreApart() {
        DryIceLane van = new DryIceLane();
        van.pass(10);
        due("save(0)", van.save(0), 10);
        refused("restore of the empty slot", van, () -> van.restore(1), NOT_POSSIBLE);
        van.pass(10);
        due("save(1)", van.save(1), 20);
        van.pass(10);
        due("restore(0)", van.restore(0), 10);
        due("restore(1)", van.restore(1), 20);
        van.pass(5);
        due("save(0) overwrites", van.save(0), 25);
        due("restore(1) keeps", van.restore(1), 20);
        due("restore(0)", van.restore(0), 25);
        due("time", van.van(TIME), 25);
    }

    private static void slotsAreNotSaved() {
        DryIceLane van = new DryIceLane();
        van.save(0);
        van.pass(3);
        van.save(1);
        due("restore(0)", van.restore(0), 0);
        due("restore(1), saved later than the slot 0", van.restore(1), 3);
    }

    private static void restoredGoesOnAlike() {
        DryIceLane van = used();
        van.save(1);
        van.vent(DryIceLane.AUTO);
        goOn(van);
        long[] once = picture(van);
        changeAll(van);
        van.restore(1);
        van.vent(DryIceLane.AUTO);
        goOn(van);
        same("going on after restore", once, picture(van));
    }

    private static void fullLaneAndRoute() {
        DryIceLane van = opened();
        for (int i = 0; i < 12; i++) {
            van.load(1 + i, i, 100 * i);
            van.leg(1 + i, 10 * i);
        }
        long[] before = picture(van);
        van.save(1);
        for (int i = 0; i < 12; i++) {
            van.unload(0);
            van.cut();
        }
        van.load(50, 50, 50);
        van.leg(50, 50);
        van.restore(1);
        same("restore of ten boxes and twelve legs", before, picture(van));
    }

    private static void goOn(DryIceLane van) {
        van.pass(30);
        van.depart();
        van.pass(10);
        van.spill(1, 5);
        van.leg(3, 3);
        van.pass(50);
    }

    private static void refusals() {
        DryIceLane van = used();
        refused("save(-1)", van, () -> van.save(-1), BAD_VALUE);
        refused("save(2)", van, () -> van.save(2), BAD_VALUE);
        refused("restore(-1)", van, () -> van.restore(-1), BAD_VALUE);
        refused("restore(2)", van, () -> van.restore(2), BAD_VALUE);
        refused("restore(0) without save", van, () -> van.restore(0), NOT_POSSIBLE);
        refused("restore(1) without save", van, () -> van.restore(1), NOT_POSSIBLE);
        van.save(0);
        refused("restore(2) with a save", van, () -> van.restore(2), BAD_VALUE);
    }

    private static void changeAll(DryIceLane van) {
        van.set(DryIceLane.SAFE, 50000);
        for (int setting = 0; setting < 11; setting++) {
            van.set(setting, van.van(15 + setting) - 1);
        }
        van.open();
        van.load(9, 90, 90);
        van.shift(2, 0);
        van.sell(60000);
        van.unload(2);
        van.load(8, 80, 80);
        van.spill(1, 3);
        van.check(1);
        van.load(7, 70, 70);
        van.set(DryIceLane.SAFE, 2);
        van.pass(1);
        van.vent(DryIceLane.SHUT);
        van.shut();
        van.cut();
        van.leg(77, 77);
        van.leg(78, 78);
        van.depart();
        van.pass(2);
    }
}
