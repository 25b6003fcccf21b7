/** Promises 25 to 28: say, wipe, fault, read. */
final class TextTest extends Checks {
    public static void main(String[] args) {
        say();
        sayRefused();
        wipe();
        correctTexts();
        faults();
        faultOfEveryCharacter();
        everyDuration();
        everyOutside();
        leadingZeros();
        faultOfASecondLeg();
        faultOfALongText();
        faultGrowsWithTheText();
        read();
        readOfEveryBound();
        readRefused();
        readToTheLimit();
        end();
    }

    private static void say() {
        DryIceLane van = new DryIceLane();
        due("say of the least", van.say(33), 1);
        due("say of the most", van.say(126), 2);
        due("length", van.van(PAD_LENGTH), 2);
        for (int i = 3; i <= 80; i++) {
            due("say of character " + i, van.say('1'), i);
        }
        refused("say, too many", van, () -> van.say('1'), TOO_MANY);
        refused("say, value before too many", van, () -> van.say(32), BAD_VALUE);
        due("length", van.van(PAD_LENGTH), 80);
        due("wipe of the longest text", van.wipe(), 80);
        due("say after a wipe", van.say('1'), 1);
    }

    private static void sayRefused() {
        DryIceLane van = new DryIceLane();
        van.say('1');
        refused("say(32)", van, () -> van.say(32), BAD_VALUE);
        refused("say(127)", van, () -> van.say(127), BAD_VALUE);
        refused("say(-1)", van, () -> van.say(-1), BAD_VALUE);
        refused("say(65585)", van, () -> van.say(65536 + '1'), BAD_VALUE);
    }

    private static void wipe() {
        DryIceLane van = new DryIceLane();
        due("wipe of nothing", van.wipe(), 0);
        write(van, "9@9");
        due("wipe", van.wipe(), 3);
        due("length after a wipe", van.van(PAD_LENGTH), 0);
        due("wipe again", van.wipe(), 0);
        due("fault after a wipe", van.fault(), 0);
        write(van, "x");
        due("fault of the new text", van.fault(), 0);
    }

    private static void correctTexts() {
        String[] texts = {
            "1@0", "9@-0", "600@50", "599@-40", "10@9", "100@10", "60@-9", "6@39", "7@-39", "1@0,1@0", "600@-40,600@50,1@-1"
        };
        for (String text : texts) {
            due("fault of " + text, faultOf(text), NONE);
        }
    }

    private static void faults() {
        fault("", 0);
        fault("0", 0);
        fault("0@5", 0);
        fault("05@5", 0);
        fault("-5@5", 0);
        fault("@5", 0);
        fault(",", 0);
        fault("5", 1);
        fault("60", 2);
        fault("601", 2);
        fault("601@5", 2);
        fault("61", 2);
        fault("610", 2);
        fault("6000", 3);
        fault("999", 2);
        fault("600", 3);
        fault("5,", 1);
        fault("5-", 1);
        fault("5@", 2);
        fault("5@@", 2);
        fault("5@,", 2);
        fault("5@-", 3);
        fault("5@--", 3);
        fault("5@-,", 3);
        fault("5@51", 3);
        fault("5@60", 3);
        fault("5@00", 3);
        fault("5@01", 3);
        fault("5@500", 4);
        fault("5@100", 4);
        fault("5@-41", 4);
        fault("5@-50", 4);
        fault("5@-01", 4);
        fault("5@-400", 5);
        fault("5@5-", 3);
        fault("5@5@", 3);
        fault("5@5,", 4);
        fault("5@5,,", 4);
        fault("5@5,0", 4);
        fault("5@5,-", 4);
        fault("5@5,7", 5);
        fault("5@-5,7@-", 8);
        fault("5@-5,7@41", NONE);
        fault("5@-5,7@51", 8);
        fault("5@5,7@-41", 8);
        fault("5@5;7@5", 3);
        fault("5@5.0", 3);
    }

    /** Behind "12@3" a digit, a comma, and nothing else goes on; so for the other places of a text. */
    private static void faultOfEveryCharacter() {
        for (char c = 33; c <= 126; c++) {
            boolean digit = c >= '0' && c <= '9';
            fault("" + c, digit && c != '0' ? 1 : 0);
            fault("12" + c, digit || c == '@' ? 3 : 2);
            fault("12@" + c, digit ? NONE : c == '-' ? 4 : 3);
            fault("12@-" + c, digit ? NONE : 4);
            fault("12@3" + c, digit ? NONE : c == ',' ? 5 : 4);
            fault("12@0" + c, c == ',' ? 5 : 4);
            fault("12@-3" + c, digit ? NONE : c == ',' ? 6 : 5);
        }
    }

    /** 0 is no duration, and a fourth digit or a greater number than 600 is one too many. */
    private static void everyDuration() {
        fault("0@0", 0);
        for (int minutes = 1; minutes <= 600; minutes++) {
            fault(minutes + "@0", NONE);
        }
        for (int minutes = 601; minutes <= 1100; minutes++) {
            fault(minutes + "@0", minutes < 1000 ? 2 : 3);
        }
        fault("2147483648@0", 3);
        fault("4294967297@0", 3);
        fault("99999999999999999999@0", 2);
    }

    private static void everyOutside() {
        for (int degrees = 0; degrees <= 120; degrees++) {
            fault("1@" + degrees, degrees <= 50 ? NONE : degrees < 100 ? 3 : 4);
            fault("1@-" + degrees, degrees <= 40 ? NONE : degrees < 100 ? 4 : 5);
        }
        fault("1@4294967296", 4);
        fault("1@-4294967296", 4);
    }

    private static void leadingZeros() {
        for (int digit = 0; digit <= 9; digit++) {
            fault("0" + digit + "@1", 0);
            fault("1@0" + digit, 3);
            fault("1@-0" + digit, 4);
            fault("1@1,0" + digit, 4);
        }
        fault("10@10", NONE);
        fault("100@-10", NONE);
        fault("1@0,1@-0,1@0", NONE);
    }

    /** A leg behind a comma goes wrong at the same places as the first one. */
    private static void faultOfASecondLeg() {
        String first = "600@-40,";
        String[] texts = {
            "", "0", "@", "-", ",", "601", "61", "7,", "7-", "7@", "7@@", "7@,", "7@-", "7@--", "7@-,", "7@51", "7@00", "7@-41",
            "7@-00", "7@5@", "7@5-", "7@5,", "7@-5,", "7@500", "7@-400", "7@5x"
        };
        for (String text : texts) {
            fault(first + text, first.length() + faultOf(text));
        }
        fault(first + "7@-40", NONE);
        fault(first + "7@50", NONE);
    }

    /** The fault stays where it is, whatever comes behind it. */
    private static void faultGrowsWithTheText() {
        DryIceLane van = new DryIceLane();
        String text = "59@-3,600@5";
        int[] faults = {1, 2, 3, 4, NONE, 6, 7, 8, 9, 10, NONE};
        for (int i = 0; i < text.length(); i++) {
            van.say(text.charAt(i));
            due("fault of " + text.substring(0, i + 1), van.fault(), faults[i]);
        }
        for (int length = 12; length <= 80; length++) {
            van.say(length == 12 ? '1' : ',');
            due("fault of " + length + " characters", van.fault(), 11);
        }
    }

    private static void faultOfALongText() {
        String legs = "1@0,1@0,1@0,1@0,1@0,1@0,1@0,1@0,1@0,1@0,1@0,1@0,1@0,1@0,1@0,1@0,1@0,1@0,1@0,1@0";
        fault(legs, NONE);
        fault(legs + ",", 80);
        fault(legs.substring(0, 78) + "60", 79);
        fault(legs.substring(0, 78), 78);
    }

    private static void read() {
        DryIceLane van = new DryIceLane();
        van.leg(7, 70);
        write(van, "30@-5,600@50,1@0,2@-0,45@-40");
        due("read", van.read(), 6);
        due("length after read", van.van(PAD_LENGTH), 0);
        int[] legs = {7, 70, 30, -500, 600, 5000, 1, 0, 2, 0, 45, -4000};
        for (int i = 0; i < 6; i++) {
            due("duration of leg " + i, van.way(i, 0), legs[2 * i]);
            due("outside of leg " + i, van.way(i, 1), legs[2 * i + 1]);
        }
        due("legs", van.van(LEGS), 6);
        refused("read again", van, van::read, BAD_TEXT);
        van.depart();
        write(van, "5@12");
        due("read on the way", van.read(), 7);
        due("outside of the new leg", van.way(6, 1), 1200);
    }

    private static void readOfEveryBound() {
        DryIceLane van = new DryIceLane();
        write(van, "1@0,600@-0,1@50,600@-40,1@-1,9@9");
        due("read", van.read(), 6);
        int[] outsides = {0, 0, 5000, -4000, -100, 900};
        for (int leg = 0; leg < 6; leg++) {
            due("duration of leg " + leg, van.way(leg, 0), leg == 5 ? 9 : leg % 2 == 0 ? 1 : 600);
            due("outside of leg " + leg, van.way(leg, 1), outsides[leg]);
        }
        due("outside temperature: no leg has begun", van.van(OUTSIDE), 2000);
        due("latest leg", van.van(LATEST_LEG), NONE - GONE);
        van.wipe();
        write(van, "1@1,1@1,1@1,1@1,1@1,1@1");
        due("read of as many legs as there is room for", van.read(), 12);
        due("outside of the last leg", van.way(11, 1), 100);
    }

    private static void readRefused() {
        for (String text : new String[] {"", "5", "5@5,", "5@5,601@0", "05@5", "5@-"}) {
            DryIceLane van = new DryIceLane();
            write(van, text);
            refused("read of " + text, van, van::read, BAD_TEXT);
        }
    }

    private static void readToTheLimit() {
        DryIceLane van = new DryIceLane();
        for (int i = 0; i < 10; i++) {
            van.leg(1, 1);
        }
        write(van, "3@3,4@4,5@5");
        refused("read of too many", van, van::read, TOO_MANY);
        van.say(',');
        refused("read, text before too many", van, van::read, BAD_TEXT);
        van.wipe();
        write(van, "3@3,4@4");
        due("read to the limit", van.read(), 12);
        due("duration of the last leg", van.way(11, 0), 4);
        write(van, "1@1");
        refused("read of one too many", van, van::read, TOO_MANY);
        DryIceLane empty = new DryIceLane();
        write(empty, "1@1,1@1,1@1,1@1,1@1,1@1,1@1,1@1,1@1,1@1,1@1,1@1,1@1");
        refused("read of 13", empty, empty::read, TOO_MANY);
    }

    private static void fault(String text, int want) {
        due("fault of " + text, faultOf(text), want);
    }

    private static int faultOf(String text) {
        DryIceLane van = new DryIceLane();
        write(van, text);
        long[] before = picture(van);
        int fault = van.fault();
        same("fault of " + text, before, picture(van));
        return fault;
    }
}
