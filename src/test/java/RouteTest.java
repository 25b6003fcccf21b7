/** Promises 6 to 9: leg, cut, depart, pass. */
final class RouteTest extends Checks {
    public static void main(String[] args) {
        leg();
        legRefused();
        cut();
        depart();
        departRefused();
        outsideStaysAtTheStop();
        pass();
        passRefused();
        timeHasAnEnd();
        end();
    }

    private static void leg() {
        DryIceLane van = new DryIceLane();
        due("leg of the least", van.leg(1, -4000), 0);
        due("leg of the most", van.leg(600, 5000), 1);
        due("duration of leg 0", van.way(0, 0), 1);
        due("outside of leg 0", van.way(0, 1), -4000);
        due("duration of leg 1", van.way(1, 0), 600);
        due("outside of leg 1", van.way(1, 1), 5000);
        due("outside temperature at the start", van.van(OUTSIDE), 2000);
        for (int i = 2; i < 12; i++) {
            due("leg " + i, van.leg(10 + i, i), i);
        }
        due("legs", van.van(LEGS), 12);
        refused("leg, too many", van, () -> van.leg(1, 0), TOO_MANY);
        refused("leg, value before too many", van, () -> van.leg(0, 0), BAD_VALUE);
        for (int i = 2; i < 12; i++) {
            due("duration of leg " + i, van.way(i, 0), 10 + i);
            due("outside of leg " + i, van.way(i, 1), i);
        }
    }

    private static void legRefused() {
        DryIceLane van = new DryIceLane();
        refused("leg of 0 minutes", van, () -> van.leg(0, 0), BAD_VALUE);
        refused("leg of -5 minutes", van, () -> van.leg(-5, 0), BAD_VALUE);
        refused("leg of 601 minutes", van, () -> van.leg(601, 0), BAD_VALUE);
        refused("leg at -4001", van, () -> van.leg(1, -4001), BAD_VALUE);
        refused("leg at 5001", van, () -> van.leg(1, 5001), BAD_VALUE);
    }

    private static void cut() {
        DryIceLane van = new DryIceLane();
        refused("cut of none", van, van::cut, NOT_POSSIBLE);
        van.leg(10, 0);
        van.leg(20, 100);
        van.leg(30, 200);
        due("cut of leg 2", van.cut(), 2);
        due("legs", van.van(LEGS), 2);
        due("leg 2", van.way(2, 0), NO_SUCH - GONE);
        van.depart();
        due("cut of leg 1 on leg 0", van.cut(), 1);
        refused("cut of the leg that the van is on", van, van::cut, NOT_POSSIBLE);
        van.pass(10);
        refused("cut of the leg that is over", van, van::cut, NOT_POSSIBLE);
        due("leg at the stop", van.leg(5, 300), 1);
        due("its duration", van.way(1, 0), 5);
        due("its outside temperature", van.way(1, 1), 300);
        due("cut of it", van.cut(), 1);
        DryIceLane atStart = new DryIceLane();
        atStart.leg(1, 1);
        due("cut of the only leg at the start", atStart.cut(), 0);
        refused("depart on no leg", atStart, atStart::depart, NOT_POSSIBLE);
    }

    private static void depart() {
        DryIceLane van = new DryIceLane();
        van.leg(10, 3000);
        van.leg(20, -1000);
        due("depart", van.depart(), 0);
        due("latest leg", van.van(LATEST_LEG), 0);
        due("minutes left", van.van(MINUTES_LEFT), 10);
        due("outside", van.van(OUTSIDE), 3000);
        due("time", van.van(TIME), 0);
        refused("depart on the way", van, van::depart, NOT_POSSIBLE);
        van.pass(9);
        due("minutes left", van.van(MINUTES_LEFT), 1);
        refused("depart a minute before the stop", van, van::depart, NOT_POSSIBLE);
        van.pass(1);
        due("minutes left at the stop", van.van(MINUTES_LEFT), 0);
        due("latest leg at the stop", van.van(LATEST_LEG), 0);
        due("depart from the stop", van.depart(), 1);
        due("latest leg", van.van(LATEST_LEG), 1);
        due("minutes left", van.van(MINUTES_LEFT), 20);
        due("outside", van.van(OUTSIDE), -1000);
    }

    private static void departRefused() {
        DryIceLane van = new DryIceLane();
        refused("depart without a leg", van, van::depart, NOT_POSSIBLE);
        van.leg(1, 0);
        van.open();
        refused("depart with an open door", van, van::depart, NOT_POSSIBLE);
        van.shut();
        due("depart with a shut door", van.depart(), 0);
        van.pass(1);
        refused("depart behind the last leg", van, van::depart, NOT_POSSIBLE);
    }

    private static void outsideStaysAtTheStop() {
        DryIceLane van = new DryIceLane();
        van.set(DryIceLane.SLOW, 1);
        van.leg(5, -1000);
        van.leg(5, 4000);
        van.depart();
        van.pass(50);
        due("outside at the stop", van.van(OUTSIDE), -1000);
        due("T at the stop", van.van(TEMPERATURE), -1000);
        van.depart();
        due("T when the next leg begins", van.van(TEMPERATURE), -1000);
        van.pass(1);
        due("T on the next leg", van.van(TEMPERATURE), 4000);
    }

    private static void pass() {
        DryIceLane van = new DryIceLane();
        due("pass at the start", van.pass(1), 0);
        due("time", van.van(TIME), 1);
        van.leg(10, 2000);
        van.leg(3, 2000);
        due("pass before the leg begins", van.pass(1000), 0);
        due("time", van.van(TIME), 1001);
        van.depart();
        due("pass on the way", van.pass(4), 4);
        due("minutes left", van.van(MINUTES_LEFT), 6);
        due("pass to the stop", van.pass(6), 6);
        due("minutes left", van.van(MINUTES_LEFT), 0);
        due("pass at the stop", van.pass(5), 0);
        van.depart();
        due("pass beyond the stop", van.pass(10), 3);
        due("latest leg: the next one has not begun", van.van(LATEST_LEG), 1);
        due("time", van.van(TIME), 1026);
    }

    private static void passRefused() {
        DryIceLane van = onTheWay(10, 0);
        refused("pass(0)", van, () -> van.pass(0), BAD_VALUE);
        refused("pass(-1)", van, () -> van.pass(-1), BAD_VALUE);
        refused("pass(1001)", van, () -> van.pass(1001), BAD_VALUE);
        refused("pass(most int)", van, () -> van.pass(Integer.MAX_VALUE), BAD_VALUE);
    }

    private static void timeHasAnEnd() {
        DryIceLane van = new DryIceLane();
        for (int i = 0; i < 99; i++) {
            van.pass(1000);
        }
        due("pass to 99999", van.pass(999), 0);
        refused("pass to 100001", van, () -> van.pass(2), NOT_POSSIBLE);
        refused("pass far over", van, () -> van.pass(1000), NOT_POSSIBLE);
        due("pass to 100000", van.pass(1), 0);
        due("time", van.van(TIME), 100000);
        refused("pass at the end of time", van, () -> van.pass(1), NOT_POSSIBLE);
        refused("pass, value before time", van, () -> van.pass(1001), BAD_VALUE);
    }
}
