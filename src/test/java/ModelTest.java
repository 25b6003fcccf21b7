import java.util.Random;

/** All promises together: long runs of calls, the same ones each time, on the program and on the model. */
final class ModelTest extends Checks {
    private static final int RUNS = 400, CALLS = 500;
    private static final int[] ARGUMENTS = {
        3, 1, 2, 2, 2, 0, 0, 1, 1, 0, 0, 1, 2, 1, 1, 2, 1, 2, 1, 2, 1, 1, 2, 1, 0, 0, 0, 1, 1
    };
    private static final String[] NAMES = {
        "load", "unload", "shift", "set", "leg", "cut", "depart", "pass", "vent", "open", "shut", "sell", "spill", "weigh",
        "check", "box", "van", "way", "account", "atEnd", "worst", "purge", "front", "say", "wipe", "fault", "read", "save",
        "restore"
    };
    // how often a method is called; the seldom ones make runs short-lived
    private static final int[] WEIGHTS = {
        12, 3, 5, 8, 4, 1, 10, 20, 5, 14, 8, 7, 5, 4, 4, 4, 4, 2, 4, 5, 5, 5, 5, 5, 1, 3, 3, 2, 1
    };
    private static final int[][] SETTINGS = {
        {0, 1000}, {1, 100}, {0, 500}, {0, 100}, {0, 900}, {1, 50000}, {0, 50000}, {0, 100}, {1, 50000}, {1, 200}, {1, 100000}
    };
    private static final int[] EXTREMES = {Integer.MIN_VALUE, Integer.MAX_VALUE, -1, 0, 1, -GONE, GONE, 101, 1001, 50000001};

    private final Random random;
    private final DryIceLane van = new DryIceLane();
    private final Model model = new Model();
    private final StringBuilder told = new StringBuilder();
    private boolean wrong = false;

    private ModelTest(long seed) {
        random = new Random(seed);
    }

    public static void main(String[] args) {
        for (int run = 0; run < RUNS; run++) {
            new ModelTest(run).go();
        }
        end();
    }

    private void go() {
        for (int i = 0; i < CALLS && !wrong; i++) {
            if (random.nextInt(12) == 0) {
                writeText();
            }
            int method = weighted();
            int[] a = arguments(method);
            call(method, a[0], a[1], a[2]);
            compareAll();
        }
        if (wrong) {
            System.out.println(told);
        }
    }

    private void call(int method, int a, int b, int c) {
        int[] given = {a, b, c};
        told.append(NAMES[method]);
        for (int i = 0; i < ARGUMENTS[method]; i++) {
            told.append(' ').append(given[i]);
        }
        long want = model.answer(method, a, b, c);
        long got = answer(method, a, b, c);
        told.append(" = ").append(got).append('\n');
        compare(NAMES[method], got, want);
    }

    private void compare(String what, long got, long want) {
        due(what, got, want);
        wrong |= got != want;
    }

    private void compareAll() {
        for (int what = 0; what < 26; what++) {
            compare("van(" + what + ")", van.van(what), model.answer(16, what, 0, 0));
        }
        for (int box = 0; box < van.van(BOXES); box++) {
            for (int what = 0; what < 5; what++) {
                compare("box(" + box + ", " + what + ")", van.box(box, what), model.answer(15, box, what, 0));
            }
        }
        for (int leg = 0; leg < van.van(LEGS); leg++) {
            compare("way(" + leg + ", 0)", van.way(leg, 0), model.answer(17, leg, 0, 0));
            compare("way(" + leg + ", 1)", van.way(leg, 1), model.answer(17, leg, 1, 0));
        }
        for (int what = 0; what < 6; what++) {
            compare("account(" + what + ")", van.account(what), model.answer(18, what, 0, 0));
        }
    }

    private int weighted() {
        int sum = 0;
        for (int weight : WEIGHTS) {
            sum += weight;
        }
        int at = random.nextInt(sum);
        int method = 0;
        while (at >= WEIGHTS[method]) {
            at -= WEIGHTS[method];
            method++;
        }
        return method;
    }

    private int[] arguments(int method) {
        int[] a = new int[3];
        switch (method) {
            case 0: a = new int[] {between(1, 100), between(0, 5000000), between(0, 20000000)}; break;
            case 1: a[0] = index(van.van(BOXES)); break;
            case 2: a[0] = index(van.van(BOXES)); a[1] = index(van.van(BOXES)); break;
            case 3: a[0] = random.nextInt(11); a[1] = between(SETTINGS[a[0]][0], SETTINGS[a[0]][1]); break;
            case 4: a[0] = between(1, 600); a[1] = random.nextInt(9001) - 4000; break;
            case 7: a[0] = between(1, random.nextInt(3) == 0 ? 1000 : 20); break;
            case 8: a[0] = random.nextInt(3); break;
            case 11: a[0] = between(1, 50000000); break;
            case 12: a[0] = index(van.van(BOXES)); a[1] = between(1, 20000000); break;
            case 13: case 14: a[0] = index(van.van(BOXES)); break;
            case 15: a[0] = index(van.van(BOXES)); a[1] = random.nextInt(6); break;
            case 16: a[0] = random.nextInt(27); break;
            case 17: a[0] = index(van.van(LEGS)); a[1] = random.nextInt(3); break;
            case 18: a[0] = random.nextInt(7); break;
            case 19: a[0] = index(van.van(BOXES)); a[1] = between(0, 100); break;
            case 20: case 21: a[0] = between(1, 1000); break;
            case 22: a[0] = between(1, 50000000); a[1] = between(1, 100); break;
            case 23: a[0] = between(33, 126); break;
            case 27: case 28: a[0] = random.nextInt(2); break;
            default: break;
        }
        if (random.nextInt(30) == 0) {
            a[random.nextInt(3)] = EXTREMES[random.nextInt(EXTREMES.length)];
        }
        return a;
    }

    /** A number of the range: often an end, often a small one, seldom one beside the range. */
    private int between(int least, int most) {
        switch (random.nextInt(12)) {
            case 0: return least;
            case 1: return most;
            case 2: return random.nextInt(3) == 0 ? least - 1 : least + 1;
            case 3: return random.nextInt(3) == 0 ? most + 1 : most - 1;
            case 4: case 5: case 6: return least + random.nextInt(Math.min(most - least, 10) + 1);
            case 7: return least + random.nextInt((most - least) / 100 + 1);
            default: return least + random.nextInt(most - least + 1);
        }
    }

    private int index(int count) {
        return random.nextInt(15) == 0 ? random.nextInt(15) - 2 : random.nextInt(Math.max(count, 1));
    }

    /** Writes a route that is often correct, and sometimes cuts or changes it. */
    private void writeText() {
        call(24, 0, 0, 0);
        StringBuilder text = new StringBuilder();
        int legs = 1 + random.nextInt(4);
        for (int i = 0; i < legs; i++) {
            text.append(i == 0 ? "" : ",").append(between(1, 600)).append('@');
            text.append(random.nextInt(3) == 0 ? "-" + random.nextInt(42) : "" + random.nextInt(52));
        }
        if (random.nextInt(3) == 0) {
            text.setLength(random.nextInt(text.length()));
        }
        if (random.nextInt(3) == 0) {
            text.insert(random.nextInt(text.length() + 1), "0123456789@-,,x".charAt(random.nextInt(15)));
        }
        for (int i = 0; i < text.length(); i++) {
            call(23, text.charAt(i), 0, 0);
            call(25, 0, 0, 0);
        }
        call(26, 0, 0, 0);
    }

    private long answer(int method, int a, int b, int c) {
        switch (method) {
            case 0: return van.load(a, b, c);
            case 1: return van.unload(a);
            case 2: return van.shift(a, b);
            case 3: return van.set(a, b);
            case 4: return van.leg(a, b);
            case 5: return van.cut();
            case 6: return van.depart();
            case 7: return van.pass(a);
            case 8: return van.vent(a);
            case 9: return van.open();
            case 10: return van.shut();
            case 11: return van.sell(a);
            case 12: return van.spill(a, b);
            case 13: return van.weigh(a);
            case 14: return van.check(a);
            case 15: return van.box(a, b);
            case 16: return van.van(a);
            case 17: return van.way(a, b);
            case 18: return van.account(a);
            case 19: return van.atEnd(a, b);
            case 20: return van.worst(a);
            case 21: return van.purge(a);
            case 22: return van.front(a, b);
            case 23: return van.say(a);
            case 24: return van.wipe();
            case 25: return van.fault();
            case 26: return van.read();
            case 27: return van.save(a);
            default: return van.restore(a);
        }
    }
}
