import java.util.ArrayList;
import java.util.Arrays;
import java.util.List;
import java.util.regex.Pattern;

/**
 * The document once more, in another form, to compare long runs with: every forecast is made with calls on a copy,
 * and texts are judged by a regular expression.
 */
final class Model {
    private static final int NO_SUCH = -1, BAD_VALUE = -2, BAD_TEXT = -3, TOO_MANY = -4, NOT_POSSIBLE = -5, NONE = -6;
    private static final int GONE = 1000000000;
    private static final int[][] RANGES = {
        {0, 1000}, {1, 100}, {0, 500}, {0, 100}, {0, 900}, {1, 50000}, {0, 50000}, {0, 100}, {1, 50000}, {1, 200}, {1, 100000}
    };
    private static final String LEG = "([1-9][0-9]?|[1-5][0-9][0-9]|600)@(-([0-9]|[123][0-9]|40)|[0-9]|[1-4][0-9]|50)";
    private static final Pattern ROUTE = Pattern.compile(LEG + "(," + LEG + ")*");
    private static final String[] ENDINGS = {"", "0", "@0", "1@0"};

    // insulation, tare, ice, paper
    private List<int[]> boxes = new ArrayList<>();
    // duration, outside
    private List<int[]> legs = new ArrayList<>();
    private int[] settings = {100, 10, 100, 5, 300, 5000, 1000, 5, 5000, 20, 5000};
    private long[] accounts = new long[6];
    private long time, temperature = 2000, outside = 2000, gas, count, alarms;
    private int mode, latest = -1, onLeg;
    private boolean ventOpen, doorOpen, driving;
    private StringBuilder pad = new StringBuilder();
    private Model[] slots = new Model[2];

    private void copyFrom(Model other) {
        boxes = new ArrayList<>();
        other.boxes.forEach(box -> boxes.add(box.clone()));
        legs = new ArrayList<>();
        other.legs.forEach(leg -> legs.add(leg.clone()));
        settings = other.settings.clone();
        accounts = other.accounts.clone();
        time = other.time;
        temperature = other.temperature;
        outside = other.outside;
        gas = other.gas;
        count = other.count;
        alarms = other.alarms;
        mode = other.mode;
        latest = other.latest;
        onLeg = other.onLeg;
        ventOpen = other.ventOpen;
        doorOpen = other.doorOpen;
        driving = other.driving;
    }

    private Model copy() {
        Model copy = new Model();
        copy.copyFrom(this);
        return copy;
    }

    private static boolean out(int value, int least, int most) {
        return value < least || value > most;
    }

    private boolean noBox(int box) {
        return out(box, 0, boxes.size() - 1);
    }

    private long off(int[] box) {
        return Math.min(box[2], Math.max(0, (temperature + 8000) * settings[0] / (100L * box[0])));
    }

    private long concentration() {
        return gas / (2L * settings[1]);
    }

    private void minute() {
        long all = 0;
        for (int[] box : boxes) {
            long off = off(box);
            box[2] -= (int) off;
            box[3] = (int) Math.max(0, box[3] - off);
            all += off;
        }
        gas += all;
        accounts[3] += all;

        temperature += (outside - temperature) / settings[9];
        if (ventOpen) {
            temperature += (outside - temperature) / settings[9];
        }
        if (doorOpen) {
            temperature += (outside - temperature) / 4;
        }
        if (temperature > -7900) {
            temperature = Math.max(-7900, temperature - all / settings[10]);
        }

        gas -= gas * settings[3] / 1000;
        gas -= ventOpen ? gas * settings[2] / 1000 : 0;
        gas -= doorOpen ? gas * settings[4] / 1000 : 0;

        long c = concentration();
        if (mode == 0 && ventOpen) {
            count++;
            ventOpen = c > settings[6] || count < settings[7];
        } else if (mode == 2 || mode == 0 && c >= settings[5]) {
            openVent();
        } else {
            ventOpen = false;
        }
        alarms += doorOpen && c >= settings[8] ? 1 : 0;

        time++;
        if (driving) {
            onLeg++;
            driving = onLeg < legs.get(latest)[0];
        }
    }

    private void openVent() {
        count = ventOpen ? count : 0;
        ventOpen = true;
    }

    private long ice() {
        return boxes.stream().mapToLong(box -> box[2]).sum();
    }

    private long load(int insulation, int tare, int ice) {
        if (out(insulation, 1, 100) || out(tare, 0, 5000000) || out(ice, 0, 20000000)) {
            return BAD_VALUE;
        }
        if (boxes.size() == 10) {
            return TOO_MANY;
        }
        if (!doorOpen) {
            return NOT_POSSIBLE;
        }
        boxes.add(new int[] {insulation, tare, ice, ice});
        accounts[1] += ice;
        return boxes.size() - 1;
    }

    private long unload(int box) {
        if (noBox(box)) {
            return NO_SUCH;
        }
        if (!doorOpen) {
            return NOT_POSSIBLE;
        }
        int ice = boxes.remove(box)[2];
        accounts[2] += ice;
        return ice;
    }

    private long shift(int box, int to) {
        if (noBox(box) || noBox(to)) {
            return NO_SUCH;
        }
        boxes.add(to, boxes.remove(box));
        return boxes.get(to)[2];
    }

    private long set(int setting, int value) {
        if (out(setting, 0, 10) || out(value, RANGES[setting][0], RANGES[setting][1])) {
            return BAD_VALUE;
        }
        int previous = settings[setting];
        settings[setting] = value;
        return previous;
    }

    private long leg(int minutes, int outside) {
        if (out(minutes, 1, 600) || out(outside, -4000, 5000)) {
            return BAD_VALUE;
        }
        if (legs.size() == 12) {
            return TOO_MANY;
        }
        legs.add(new int[] {minutes, outside});
        return legs.size() - 1;
    }

    private long cut() {
        if (legs.isEmpty() || latest == legs.size() - 1) {
            return NOT_POSSIBLE;
        }
        legs.remove(legs.size() - 1);
        return legs.size();
    }

    private long depart() {
        if (driving || doorOpen || latest + 1 == legs.size()) {
            return NOT_POSSIBLE;
        }
        latest++;
        onLeg = 0;
        driving = true;
        outside = legs.get(latest)[1];
        return latest;
    }

    private long pass(int minutes) {
        if (out(minutes, 1, 1000)) {
            return BAD_VALUE;
        }
        if (time + minutes > 100000) {
            return NOT_POSSIBLE;
        }
        long way = 0;
        for (int i = 0; i < minutes; i++) {
            way += driving ? 1 : 0;
            minute();
        }
        return way;
    }

    private long vent(int mode) {
        if (out(mode, 0, 2)) {
            return BAD_VALUE;
        }
        int previous = this.mode;
        this.mode = mode;
        if (mode == 1) {
            ventOpen = false;
        }
        if (mode == 2) {
            openVent();
        }
        return previous;
    }

    private long open() {
        if (driving || doorOpen) {
            return NOT_POSSIBLE;
        }
        if (concentration() >= settings[8]) {
            openVent();
            return NONE;
        }
        doorOpen = true;
        return concentration();
    }

    private long shut() {
        if (!doorOpen) {
            return NOT_POSSIBLE;
        }
        doorOpen = false;
        return concentration();
    }

    private long sell(int ice) {
        if (out(ice, 1, 50000000)) {
            return BAD_VALUE;
        }
        if (!doorOpen || ice() < ice) {
            return NOT_POSSIBLE;
        }
        accounts[4] += ice;
        int touched = 0;
        for (int[] box : boxes) {
            int taken = Math.min(ice, box[2]);
            box[2] -= taken;
            box[3] -= taken;
            ice -= taken;
            touched += taken == 0 ? 0 : 1;
        }
        return touched;
    }

    private long spill(int box, int ice) {
        if (noBox(box)) {
            return NO_SUCH;
        }
        if (out(ice, 1, Math.min(20000000, boxes.get(box)[2]))) {
            return BAD_VALUE;
        }
        accounts[5] += ice;
        return boxes.get(box)[2] -= ice;
    }

    private long weigh(int box) {
        return noBox(box) ? NO_SUCH : driving ? NOT_POSSIBLE : boxes.get(box)[1] + boxes.get(box)[2];
    }

    private long check(int box) {
        if (noBox(box) || driving) {
            return (noBox(box) ? NO_SUCH : NOT_POSSIBLE) - GONE;
        }
        int difference = boxes.get(box)[3] - boxes.get(box)[2];
        boxes.get(box)[3] -= difference;
        return difference;
    }

    private long box(int box, int what) {
        if (noBox(box) || out(what, 0, 4)) {
            return noBox(box) ? NO_SUCH : BAD_VALUE;
        }
        return what == 4 ? off(boxes.get(box)) : boxes.get(box)[what];
    }

    private long van(int what) {
        if (out(what, 0, 25)) {
            return BAD_VALUE - GONE;
        }
        long[] numbers = {
            time, temperature, outside, gas, concentration(), mode, ventOpen ? 1 : 0, ventOpen ? count : 0, doorOpen ? 1 : 0,
            latest < 0 ? NONE - GONE : latest, driving ? legs.get(latest)[0] - onLeg : 0, alarms, boxes.size(), legs.size(),
            pad.length()
        };
        return what < 15 ? numbers[what] : settings[what - 15];
    }

    private long way(int leg, int what) {
        if (out(leg, 0, legs.size() - 1) || out(what, 0, 1)) {
            return (out(leg, 0, legs.size() - 1) ? NO_SUCH : BAD_VALUE) - GONE;
        }
        return legs.get(leg)[what];
    }

    private long account(int what) {
        return out(what, 0, 5) ? BAD_VALUE : what == 0 ? ice() : accounts[what];
    }

    private long atEnd(int box, int wait) {
        if (noBox(box) || out(wait, 0, 100)) {
            return noBox(box) ? NO_SUCH : BAD_VALUE;
        }
        Model copy = copy();
        copy.doorOpen = false;
        while (copy.driving || copy.latest + 1 < copy.legs.size()) {
            if (!copy.driving) {
                copy.depart();
            }
            while (copy.driving) {
                copy.minute();
            }
            boolean last = copy.latest + 1 == copy.legs.size();
            for (int i = 0; i < wait && !last; i++) {
                copy.minute();
            }
        }
        return copy.boxes.get(box)[2];
    }

    private long worst(int minutes) {
        if (out(minutes, 1, 1000)) {
            return BAD_VALUE;
        }
        Model copy = copy();
        long[] behind = new long[minutes];
        for (int i = 0; i < minutes; i++) {
            copy.minute();
            behind[i] = copy.concentration();
        }
        return Arrays.stream(behind).max().getAsLong();
    }

    private long purge(int most) {
        if (out(most, 1, 1000)) {
            return BAD_VALUE;
        }
        Model copy = copy();
        copy.doorOpen = false;
        copy.vent(2);
        int minutes = 0;
        while (copy.concentration() >= copy.settings[8] && minutes <= most) {
            copy.minute();
            minutes++;
        }
        return minutes > most ? NONE : minutes;
    }

    private long front(int ice, int minutes) {
        if (out(ice, 1, 50000000) || out(minutes, 1, 100)) {
            return BAD_VALUE;
        }
        if (ice > ice()) {
            return NOT_POSSIBLE;
        }
        long[] left = new long[boxes.size()];
        for (int box = 0; box < left.length; box++) {
            Model copy = copy();
            copy.shift(box, 0);
            copy.doorOpen = true;
            copy.sell(ice);
            copy.doorOpen = doorOpen;
            for (int i = 0; i < minutes; i++) {
                copy.minute();
            }
            left[box] = copy.ice();
        }
        long most = Arrays.stream(left).max().getAsLong();
        int box = 0;
        while (left[box] < most) {
            box++;
        }
        return box;
    }

    private long say(int character) {
        if (out(character, 33, 126) || pad.length() == 80) {
            return out(character, 33, 126) ? BAD_VALUE : TOO_MANY;
        }
        return pad.append((char) character).length();
    }

    private long wipe() {
        int length = pad.length();
        pad.setLength(0);
        return length;
    }

    private long fault() {
        if (ROUTE.matcher(pad).matches()) {
            return NONE;
        }
        int length = 0;
        while (length < pad.length() && canBegin(pad.substring(0, length + 1))) {
            length++;
        }
        return length;
    }

    private static boolean canBegin(String text) {
        return Arrays.stream(ENDINGS).anyMatch(ending -> ROUTE.matcher(text + ending).matches());
    }

    private long read() {
        if (fault() != NONE) {
            return BAD_TEXT;
        }
        String[] texts = pad.toString().split(",");
        if (legs.size() + texts.length > 12) {
            return TOO_MANY;
        }
        for (String text : texts) {
            String[] parts = text.split("@");
            legs.add(new int[] {Integer.parseInt(parts[0]), 100 * Integer.parseInt(parts[1])});
        }
        pad.setLength(0);
        return legs.size();
    }

    private long save(int slot) {
        if (out(slot, 0, 1)) {
            return BAD_VALUE;
        }
        slots[slot] = copy();
        return time;
    }

    private long restore(int slot) {
        if (out(slot, 0, 1) || slots[slot] == null) {
            return out(slot, 0, 1) ? BAD_VALUE : NOT_POSSIBLE;
        }
        copyFrom(slots[slot]);
        return time;
    }

    /** Answers the method of this number in the document's face: 0 for load, 1 for unload, and so on to 28 for restore. */
    long answer(int method, int a, int b, int c) {
        switch (method) {
            case 0: return load(a, b, c);
            case 1: return unload(a);
            case 2: return shift(a, b);
            case 3: return set(a, b);
            case 4: return leg(a, b);
            case 5: return cut();
            case 6: return depart();
            case 7: return pass(a);
            case 8: return vent(a);
            case 9: return open();
            case 10: return shut();
            case 11: return sell(a);
            case 12: return spill(a, b);
            case 13: return weigh(a);
            case 14: return check(a);
            case 15: return box(a, b);
            case 16: return (int) van(a);
            case 17: return way(a, b);
            case 18: return account(a);
            case 19: return atEnd(a, b);
            case 20: return worst(a);
            case 21: return purge(a);
            case 22: return front(a, b);
            case 23: return say(a);
            case 24: return wipe();
            case 25: return fault();
            case 26: return read();
            case 27: return save(a);
            default: return restore(a);
        }
    }
}
