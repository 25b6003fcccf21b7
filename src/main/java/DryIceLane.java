/** A van that sells dry ice from a lane of boxes along a route. The document, ../shared/DOC.md, says what it does. */
public final class DryIceLane {
    public static final int NO_SUCH = -1, BAD_VALUE = -2, BAD_TEXT = -3, TOO_MANY = -4, NOT_POSSIBLE = -5, NONE = -6;
    public static final int GONE = 1000000000;
    public static final int RATE = 0, VOLUME = 1, VENT = 2, LEAK = 3, DOOR = 4, OPENS = 5, SHUTS = 6, HOLD = 7, SAFE = 8, SLOW = 9, COOL = 10;
    public static final int AUTO = 0, SHUT = 1, OPEN = 2;

    private static final int MOST_BOXES = 10, MOST_INSULATION = 100, MOST_TARE = 5000000, MOST_ICE = 20000000;
    private static final int MOST_SOLD = 50000000;
    private static final int MOST_LEGS = 12, LONGEST_LEG = 600, COLDEST_LEG = -4000, WARMEST_LEG = 5000;
    private static final int FIRST_TEMPERATURE = 2000, FREEZING_POINT = -8000, COLDEST_BY_ICE = -7900;
    private static final int LONGEST_PASS = 1000, LATEST_TIME = 100000;
    private static final int LONGEST_WAIT = 100, LONGEST_LOOK = 1000, LONGEST_FRONT = 100;
    private static final int LONGEST_PAD = 80, FIRST_CODE = 33, LAST_CODE = 126;
    private static final int FIRST_SETTING_NUMBER = 15, LAST_NUMBER = 25;

    private static final int[] SETTING_LEAST = {0, 1, 0, 0, 0, 1, 0, 0, 1, 1, 1};
    private static final int[] SETTING_MOST = {1000, 100, 500, 100, 900, 50000, 50000, 100, 50000, 200, 100000};
    private static final int[] SETTING_FIRST = {100, 10, 100, 5, 300, 5000, 1000, 5, 5000, 20, 5000};

    private final Van now = new Van();
    private final Van copy = new Van();
    private final Slot slot0 = new Slot();
    private final Slot slot1 = new Slot();
    private final Pad pad = new Pad();
    private final RouteReader reader = new RouteReader();

    public DryIceLane() {
    }

    // ---- boxes, settings

    public int load(int insulation, int tare, int ice) {
        if (!within(insulation, 1, MOST_INSULATION) || !within(tare, 0, MOST_TARE) || !within(ice, 0, MOST_ICE)) {
            return BAD_VALUE;
        }
        if (now.lane.count >= MOST_BOXES) {
            return TOO_MANY;
        }
        if (!now.hold.doorOpen) {
            return NOT_POSSIBLE;
        }
        now.lane.append(insulation, tare, ice);
        now.putIn += ice;
        return now.lane.count - 1;
    }

    public int unload(int box) {
        Box taken = now.lane.boxAt(box);
        if (taken == null) {
            return NO_SUCH;
        }
        if (!now.hold.doorOpen) {
            return NOT_POSSIBLE;
        }
        int ice = taken.ice;
        now.lane.takeOut(box);
        now.takenOut += ice;
        return ice;
    }

    public int shift(int box, int to) {
        Box moved = now.lane.boxAt(box);
        if (moved == null || now.lane.boxAt(to) == null) {
            return NO_SUCH;
        }
        now.lane.move(box, to);
        return moved.ice;
    }

    public int set(int setting, int value) {
        if (!now.settings.allows(setting, value)) {
            return BAD_VALUE;
        }
        return now.settings.change(setting, value);
    }

    // ---- the route

    public int leg(int minutes, int outside) {
        if (!within(minutes, 1, LONGEST_LEG) || !within(outside, COLDEST_LEG, WARMEST_LEG)) {
            return BAD_VALUE;
        }
        if (now.route.count >= MOST_LEGS) {
            return TOO_MANY;
        }
        now.route.append(minutes, outside);
        return now.route.count - 1;
    }

    public int cut() {
        if (!now.route.hasNextLeg()) {
            return NOT_POSSIBLE;
        }
        now.route.count--;
        return now.route.count;
    }

    public int depart() {
        if (now.route.isOnTheWay() || now.hold.doorOpen || !now.route.hasNextLeg()) {
            return NOT_POSSIBLE;
        }
        now.route.beginNextLeg();
        return now.route.latest;
    }

    public int pass(int minutes) {
        if (!within(minutes, 1, LONGEST_PASS)) {
            return BAD_VALUE;
        }
        if (now.time + minutes > LATEST_TIME) {
            return NOT_POSSIBLE;
        }
        int onTheWay = Math.min(minutes, now.route.minutesLeft);
        now.letPass(minutes);
        return onTheWay;
    }

    // ---- vent, door

    public int vent(int mode) {
        if (!within(mode, AUTO, OPEN)) {
            return BAD_VALUE;
        }
        int previous = now.hold.ventMode;
        now.hold.setVentMode(mode);
        return previous;
    }

    public int open() {
        if (now.route.isOnTheWay() || now.hold.doorOpen) {
            return NOT_POSSIBLE;
        }
        if (!now.isSafe()) {
            now.hold.openVent();
            return NONE;
        }
        now.hold.doorOpen = true;
        return (int) now.concentration();
    }

    public int shut() {
        if (!now.hold.doorOpen) {
            return NOT_POSSIBLE;
        }
        now.hold.doorOpen = false;
        return (int) now.concentration();
    }

    // ---- selling and weighing

    public int sell(int ice) {
        if (!within(ice, 1, MOST_SOLD)) {
            return BAD_VALUE;
        }
        if (!now.hold.doorOpen || ice > now.lane.iceOfAll()) {
            return NOT_POSSIBLE;
        }
        now.sold += ice;
        return now.lane.takeFromFront(ice);
    }

    public int spill(int box, int ice) {
        Box spilling = now.lane.boxAt(box);
        if (spilling == null) {
            return NO_SUCH;
        }
        if (!within(ice, 1, MOST_ICE) || ice > spilling.ice) {
            return BAD_VALUE;
        }
        spilling.ice -= ice;
        now.spilled += ice;
        return spilling.ice;
    }

    public int weigh(int box) {
        Box weighed = now.lane.boxAt(box);
        if (weighed == null) {
            return NO_SUCH;
        }
        return now.route.isOnTheWay() ? NOT_POSSIBLE : weighed.tare + weighed.ice;
    }

    public int check(int box) {
        Box checked = now.lane.boxAt(box);
        if (checked == null) {
            return NO_SUCH - GONE;
        }
        if (now.route.isOnTheWay()) {
            return NOT_POSSIBLE - GONE;
        }
        int difference = checked.paper - checked.ice;
        checked.paper = checked.ice;
        return difference;
    }

    // ---- what there is

    public int box(int box, int what) {
        Box asked = now.lane.boxAt(box);
        if (asked == null) {
            return NO_SUCH;
        }
        switch (what) {
            case 0: return asked.insulation;
            case 1: return asked.tare;
            case 2: return asked.ice;
            case 3: return asked.paper;
            case 4: return asked.goingOff(now.hold.temperature, now.settings.value(RATE));
            default: return BAD_VALUE;
        }
    }

    public int van(int what) {
        if (!within(what, 0, LAST_NUMBER)) {
            return BAD_VALUE - GONE;
        }
        if (what >= FIRST_SETTING_NUMBER) {
            return now.settings.value(what - FIRST_SETTING_NUMBER);
        }
        switch (what) {
            case 0: return now.time;
            case 1: return now.hold.temperature;
            case 2: return now.route.outsideNow();
            case 3: return (int) now.hold.gas;
            case 4: return (int) now.concentration();
            case 5: return now.hold.ventMode;
            case 6: return now.hold.ventOpen ? 1 : 0;
            case 7: return now.hold.ventMinutes;
            case 8: return now.hold.doorOpen ? 1 : 0;
            case 9: return now.route.latest < 0 ? NONE - GONE : now.route.latest;
            case 10: return now.route.minutesLeft;
            case 11: return now.hold.alarms;
            case 12: return now.lane.count;
            case 13: return now.route.count;
            default: return pad.length;
        }
    }

    public int way(int leg, int what) {
        if (!now.route.hasLeg(leg)) {
            return NO_SUCH - GONE;
        }
        switch (what) {
            case 0: return now.route.durationOf(leg);
            case 1: return now.route.outsideOf(leg);
            default: return BAD_VALUE - GONE;
        }
    }

    public long account(int what) {
        switch (what) {
            case 0: return now.lane.iceOfAll();
            case 1: return now.putIn;
            case 2: return now.takenOut;
            case 3: return now.wentOff;
            case 4: return now.sold;
            case 5: return now.spilled;
            default: return BAD_VALUE;
        }
    }

    // ---- what if: everything happens in a copy, whose time is not limited

    public int atEnd(int box, int wait) {
        if (now.lane.boxAt(box) == null) {
            return NO_SUCH;
        }
        if (!within(wait, 0, LONGEST_WAIT)) {
            return BAD_VALUE;
        }
        copy.becomeLike(now);
        copy.hold.doorOpen = false;
        copy.driveToEnd(wait);
        Box arrived = copy.lane.boxAt(box);
        return arrived == null ? NO_SUCH : arrived.ice;
    }

    public int worst(int minutes) {
        if (!within(minutes, 1, LONGEST_LOOK)) {
            return BAD_VALUE;
        }
        copy.becomeLike(now);
        long greatest = 0;
        for (int i = 0; i < minutes; i++) {
            copy.letMinutePass();
            greatest = Math.max(greatest, copy.concentration());
        }
        return (int) greatest;
    }

    public int purge(int most) {
        if (!within(most, 1, LONGEST_LOOK)) {
            return BAD_VALUE;
        }
        copy.becomeLike(now);
        copy.hold.doorOpen = false;
        copy.hold.setVentMode(OPEN);
        for (int minutes = 0; minutes <= most; minutes++) {
            if (copy.isSafe()) {
                return minutes;
            }
            copy.letMinutePass();
        }
        return NONE;
    }

    public int front(int ice, int minutes) {
        if (!within(ice, 1, MOST_SOLD) || !within(minutes, 1, LONGEST_FRONT)) {
            return BAD_VALUE;
        }
        if (ice > now.lane.iceOfAll()) {
            return NOT_POSSIBLE;
        }
        int best = 0;
        int mostLeft = -1;
        for (int box = 0; box < now.lane.count; box++) {
            int left = iceLeftWithFront(box, ice, minutes);
            if (left > mostLeft) {
                best = box;
                mostLeft = left;
            }
        }
        return best;
    }

    private int iceLeftWithFront(int box, int ice, int minutes) {
        copy.becomeLike(now);
        copy.lane.move(box, 0);
        copy.lane.takeFromFront(ice);
        copy.letPass(minutes);
        return copy.lane.iceOfAll();
    }

    // ---- texts

    public int say(int character) {
        if (!within(character, FIRST_CODE, LAST_CODE)) {
            return BAD_VALUE;
        }
        if (pad.length >= LONGEST_PAD) {
            return TOO_MANY;
        }
        pad.append(character);
        return pad.length;
    }

    public int wipe() {
        int length = pad.length;
        pad.length = 0;
        return length;
    }

    public int fault() {
        return reader.faultOf(pad);
    }

    public int read() {
        if (reader.faultOf(pad) != NONE) {
            return BAD_TEXT;
        }
        if (now.route.count + reader.legs > MOST_LEGS) {
            return TOO_MANY;
        }
        for (int i = 0; i < reader.legs; i++) {
            now.route.append(reader.durationOf(i), reader.outsideOf(i));
        }
        pad.length = 0;
        return now.route.count;
    }

    // ---- saving

    public int save(int slot) {
        if (!within(slot, 0, 1)) {
            return BAD_VALUE;
        }
        Slot used = slotAt(slot);
        used.kept.becomeLike(now);
        used.filled = true;
        return now.time;
    }

    public int restore(int slot) {
        if (!within(slot, 0, 1)) {
            return BAD_VALUE;
        }
        Slot used = slotAt(slot);
        if (!used.filled) {
            return NOT_POSSIBLE;
        }
        now.becomeLike(used.kept);
        return now.time;
    }

    private Slot slotAt(int slot) {
        return slot == 0 ? slot0 : slot1;
    }

    // ---- helpers of all

    private static boolean within(int value, int least, int most) {
        return value >= least && value <= most;
    }

    /** The divisors are settings and insulations, which are at least 1; the test keeps the division safe all the same. */
    private static long quotient(long amount, long divisor) {
        return divisor < 1 ? 0 : amount / divisor;
    }

    /** Everything that save keeps and that a forecast changes. */
    private static final class Van {
        final Settings settings = new Settings();
        final Lane lane = new Lane();
        final Hold hold = new Hold();
        final Route route = new Route();
        int time;
        long putIn;
        long takenOut;
        long wentOff;
        long sold;
        long spilled;

        void becomeLike(Van other) {
            settings.becomeLike(other.settings);
            lane.becomeLike(other.lane);
            hold.becomeLike(other.hold);
            route.becomeLike(other.route);
            time = other.time;
            putIn = other.putIn;
            takenOut = other.takenOut;
            wentOff = other.wentOff;
            sold = other.sold;
            spilled = other.spilled;
        }

        long concentration() {
            return hold.concentration(settings);
        }

        boolean isSafe() {
            return concentration() < settings.value(SAFE);
        }

        void letPass(int minutes) {
            for (int i = 0; i < minutes; i++) {
                letMinutePass();
            }
        }

        void letMinutePass() {
            int off = lane.letGoOff(hold.temperature, settings.value(RATE));
            wentOff += off;
            hold.letMinutePass(off, route.outsideNow(), settings);
            route.letMinutePass();
            time++;
        }

        /** Drives the rest of the route; it waits at the stops that it reaches, so not at one where it already is. */
        void driveToEnd(int wait) {
            boolean reachedStop = route.isOnTheWay();
            letPass(route.minutesLeft);
            for (int i = 0; i < MOST_LEGS && route.hasNextLeg(); i++) {
                if (reachedStop) {
                    letPass(wait);
                }
                route.beginNextLeg();
                letPass(route.minutesLeft);
                reachedStop = true;
            }
        }
    }

    /** A place where save keeps a van. */
    private static final class Slot {
        final Van kept = new Van();
        boolean filled;
    }

    private static final class Settings {
        private final int[] values = SETTING_FIRST.clone();

        void becomeLike(Settings other) {
            System.arraycopy(other.values, 0, values, 0, values.length);
        }

        boolean allows(int setting, int value) {
            return within(setting, RATE, COOL) && within(value, SETTING_LEAST[setting], SETTING_MOST[setting]);
        }

        int value(int setting) {
            return within(setting, RATE, COOL) ? values[setting] : 0;
        }

        /** Returns the previous value. */
        int change(int setting, int value) {
            int previous = value(setting);
            if (allows(setting, value)) {
                values[setting] = value;
            }
            return previous;
        }
    }

    private static final class Box {
        int insulation;
        int tare;
        int ice;
        int paper;

        void becomeLike(Box other) {
            insulation = other.insulation;
            tare = other.tare;
            ice = other.ice;
            paper = other.paper;
        }

        /** How much goes off in a minute. */
        int goingOff(int temperature, int rate) {
            long off = quotient((long) (temperature - FREEZING_POINT) * rate, 100L * insulation);
            return (int) Math.min(Math.max(off, 0), ice);
        }

        /** Takes ice of which the paper knows. */
        void take(int amount) {
            ice -= amount;
            paper = Math.max(paper - amount, 0);
        }
    }

    /** The boxes from the front on; a box object that is not in the lane waits behind the last one to be used again. */
    private static final class Lane {
        private final Box[] boxes = new Box[MOST_BOXES];
        int count;

        Lane() {
            for (int i = 0; i < MOST_BOXES; i++) {
                boxes[i] = new Box();
            }
        }

        void becomeLike(Lane other) {
            count = other.count;
            for (int i = 0; i < count; i++) {
                boxes[i].becomeLike(other.boxes[i]);
            }
        }

        /** Returns the box, or null if there is no such box. */
        Box boxAt(int box) {
            return within(box, 0, count - 1) ? boxes[box] : null;
        }

        void append(int insulation, int tare, int ice) {
            if (count >= MOST_BOXES) {
                return;
            }
            Box added = boxes[count];
            added.insulation = insulation;
            added.tare = tare;
            added.ice = ice;
            added.paper = ice;
            count++;
        }

        void takeOut(int box) {
            if (within(box, 0, count - 1)) {
                move(box, count - 1);
                count--;
            }
        }

        void move(int from, int to) {
            if (!within(from, 0, count - 1) || !within(to, 0, count - 1)) {
                return;
            }
            Box moved = boxes[from];
            for (int i = from; i < to; i++) {
                boxes[i] = boxes[i + 1];
            }
            for (int i = from; i > to; i--) {
                boxes[i] = boxes[i - 1];
            }
            boxes[to] = moved;
        }

        int iceOfAll() {
            int sum = 0;
            for (int i = 0; i < count; i++) {
                sum += boxes[i].ice;
            }
            return sum;
        }

        /** Returns the number of boxes from which some was taken. */
        int takeFromFront(int ice) {
            int missing = ice;
            int touched = 0;
            for (int i = 0; i < count && missing > 0; i++) {
                int taken = Math.min(boxes[i].ice, missing);
                boxes[i].take(taken);
                missing -= taken;
                touched += taken > 0 ? 1 : 0;
            }
            return touched;
        }

        /** Lets ice go off for a minute, and returns how much. */
        int letGoOff(int temperature, int rate) {
            int sum = 0;
            for (int i = 0; i < count; i++) {
                int off = boxes[i].goingOff(temperature, rate);
                boxes[i].take(off);
                sum += off;
            }
            return sum;
        }
    }

    private static final class Hold {
        int temperature = FIRST_TEMPERATURE;
        // Boxes can be put in and taken out for so long that an int would not hold the gas.
        long gas;
        int ventMode = AUTO;
        boolean ventOpen;
        int ventMinutes;
        boolean doorOpen;
        int alarms;

        void becomeLike(Hold other) {
            temperature = other.temperature;
            gas = other.gas;
            ventMode = other.ventMode;
            ventOpen = other.ventOpen;
            ventMinutes = other.ventMinutes;
            doorOpen = other.doorOpen;
            alarms = other.alarms;
        }

        long concentration(Settings settings) {
            return quotient(gas, 2L * settings.value(VOLUME));
        }

        void setVentMode(int mode) {
            ventMode = mode;
            keepToMode();
        }

        private void keepToMode() {
            if (ventMode == OPEN) {
                openVent();
            } else if (ventMode == SHUT) {
                shutVent();
            }
        }

        /** A vent that is shut has the count 0 already, and one that is open keeps its count. */
        void openVent() {
            ventOpen = true;
        }

        private void shutVent() {
            ventOpen = false;
            ventMinutes = 0;
        }

        void letMinutePass(int wentOff, int outside, Settings settings) {
            gas += wentOff;
            changeTemperature(wentOff, outside, settings);
            loseGas(settings);
            long concentration = concentration(settings);
            moveVent(concentration, settings);
            if (doorOpen && concentration >= settings.value(SAFE)) {
                alarms++;
            }
        }

        private void changeTemperature(int wentOff, int outside, Settings settings) {
            int slow = settings.value(SLOW);
            temperature += (int) quotient(outside - temperature, slow);
            if (ventOpen) {
                temperature += (int) quotient(outside - temperature, slow);
            }
            if (doorOpen) {
                temperature += (outside - temperature) / 4;
            }
            int cooled = temperature - (int) quotient(wentOff, settings.value(COOL));
            temperature = Math.max(cooled, Math.min(temperature, COLDEST_BY_ICE));
        }

        private void loseGas(Settings settings) {
            gas -= gas * settings.value(LEAK) / 1000;
            if (ventOpen) {
                gas -= gas * settings.value(VENT) / 1000;
            }
            if (doorOpen) {
                gas -= gas * settings.value(DOOR) / 1000;
            }
        }

        private void moveVent(long concentration, Settings settings) {
            if (ventMode != AUTO) {
                keepToMode();
            } else if (!ventOpen) {
                if (concentration >= settings.value(OPENS)) {
                    openVent();
                }
            } else {
                ventMinutes++;
                if (concentration <= settings.value(SHUTS) && ventMinutes >= settings.value(HOLD)) {
                    shutVent();
                }
            }
        }
    }

    private static final class Route {
        private final int[] durations = new int[MOST_LEGS];
        private final int[] outsides = new int[MOST_LEGS];
        int count;
        int latest = -1;
        int minutesLeft;

        void becomeLike(Route other) {
            System.arraycopy(other.durations, 0, durations, 0, MOST_LEGS);
            System.arraycopy(other.outsides, 0, outsides, 0, MOST_LEGS);
            count = other.count;
            latest = other.latest;
            minutesLeft = other.minutesLeft;
        }

        boolean hasLeg(int leg) {
            return within(leg, 0, count - 1);
        }

        boolean hasNextLeg() {
            return hasLeg(latest + 1);
        }

        boolean isOnTheWay() {
            return minutesLeft > 0;
        }

        int durationOf(int leg) {
            return hasLeg(leg) ? durations[leg] : 0;
        }

        int outsideOf(int leg) {
            return hasLeg(leg) ? outsides[leg] : 0;
        }

        /** What the latest leg brought goes on at its stop, until the next one begins. */
        int outsideNow() {
            return hasLeg(latest) ? outsides[latest] : FIRST_TEMPERATURE;
        }

        void append(int minutes, int outside) {
            if (count >= MOST_LEGS) {
                return;
            }
            durations[count] = minutes;
            outsides[count] = outside;
            count++;
        }

        void beginNextLeg() {
            if (hasNextLeg()) {
                latest++;
                minutesLeft = durations[latest];
            }
        }

        void letMinutePass() {
            if (isOnTheWay()) {
                minutesLeft--;
            }
        }
    }

    private static final class Pad {
        private final int[] codes = new int[LONGEST_PAD];
        int length;

        void append(int code) {
            if (length < LONGEST_PAD) {
                codes[length] = code;
                length++;
            }
        }

        int codeAt(int index) {
            return within(index, 0, length - 1) ? codes[index] : 0;
        }
    }

    /** Reads the legs of a route from a text, character by character. */
    private static final class RouteReader {
        private static final int AT_LEG = 0, IN_DURATION = 1, AT_DEGREES = 2, BEHIND_MINUS = 3, IN_DEGREES = 4;
        // A leg takes at least 3 characters, and a comma stands between two.
        private static final int MOST_READ = (LONGEST_PAD + 1) / 4;
        private static final int MOST_DEGREES = 50, MOST_DEGREES_BELOW = 40;

        private final int[] durations = new int[MOST_READ];
        private final int[] outsides = new int[MOST_READ];
        int legs;
        private int state;
        private int number;
        private int duration;
        private boolean below;

        /** Returns the fault of the text, or NONE; if there is none, the legs of the text are the reader's then. */
        int faultOf(Pad pad) {
            legs = 0;
            state = AT_LEG;
            for (int i = 0; i < pad.length; i++) {
                if (!takes(pad.codeAt(i))) {
                    return i;
                }
            }
            if (state != IN_DEGREES) {
                return pad.length;
            }
            endLeg();
            return NONE;
        }

        int durationOf(int leg) {
            return within(leg, 0, MOST_READ - 1) ? durations[leg] : 0;
        }

        int outsideOf(int leg) {
            return within(leg, 0, MOST_READ - 1) ? outsides[leg] : 0;
        }

        /** Goes on by a character; returns false if no correct text can begin so. */
        private boolean takes(int code) {
            switch (state) {
                case AT_LEG: return startsNumber(code, 1, LONGEST_LEG, IN_DURATION);
                case IN_DURATION: return code == '@' ? endsDuration() : continuesNumber(code, LONGEST_LEG);
                case AT_DEGREES: return startsDegrees(code);
                case BEHIND_MINUS: return startsNumber(code, 0, mostDegrees(), IN_DEGREES);
                default: return code == ',' ? endLeg() : continuesNumber(code, mostDegrees());
            }
        }

        private boolean startsNumber(int code, int least, int most, int next) {
            number = code - '0';
            state = next;
            return isDigit(code) && within(number, least, most);
        }

        /** A number that is 0 ends there: there are no leading zeros. */
        private boolean continuesNumber(int code, int most) {
            if (!isDigit(code) || number == 0) {
                return false;
            }
            number = number * 10 + code - '0';
            return number <= most;
        }

        private boolean endsDuration() {
            duration = number;
            below = false;
            state = AT_DEGREES;
            return true;
        }

        private boolean startsDegrees(int code) {
            if (code != '-') {
                return startsNumber(code, 0, mostDegrees(), IN_DEGREES);
            }
            below = true;
            state = BEHIND_MINUS;
            return true;
        }

        private int mostDegrees() {
            return below ? MOST_DEGREES_BELOW : MOST_DEGREES;
        }

        private boolean endLeg() {
            if (legs < MOST_READ) {
                durations[legs] = duration;
                outsides[legs] = (below ? -number : number) * 100;
                legs++;
            }
            state = AT_LEG;
            return true;
        }

        private static boolean isDigit(int code) {
            return within(code, '0', '9');
        }
    }
}
