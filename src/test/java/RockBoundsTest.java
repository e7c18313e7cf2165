/** Promises 1 to 12 at their bounds: each sentence that names one, on an object of its own. */
public final class RockBoundsTest {
    private static final Due due = new Due();
    /** Up to the last DAY: ten calls. */
    private static final String ALL_DAYS = "10 * days(20); ";

    public static void main(String[] args) {
        newObject();
        layer();
        left();
        swell();
        ship();
        turn();
        daysBounds();
        daysWater();
        daysPlaces();
        daysTons();
        about();
        cargo();
        loaded();
        boat();
        sample();
        due.covers(1, 12);
        due.end();
    }

    private static void newObject() {
        due.says(1, "DAY 0", "count(0) = 0; swell(-1, 0) = BAD; swell(0, 0) = 0; days(1) = 1");
        due.says(1, "DAY 0: none is gone", "ship(0, 1, 1) = 0; loaded(0, 0) = -2; about(0, 1) = 0; owed(0, 0) = 0");
        due.says(1, "no SHIPS", "count(1) = 0; count(3) = 0; count(6) = 0; ship(0, 1, 1) = 0; count(1) = 1");
        due.says(1, "no SHIPS: there is no such thing", "turn(0) = BAD; about(0, 0) = BAD; boat(0, 1) = BAD; "
            + "sample(0, 1) = BAD; charter(0) = BAD; term(0, 0) = BAD; owed(0, 0) = -1000000; shared(0, 0) = BAD; "
            + "layer(1, 1) = 0; cargo(0, 0) = BAD; days(1) = 1; loaded(0, 0) = -2");
        due.says(1, "no LAYERS", "count(2) = 0; count(4) = 0; left(0) = BAD; layer(1, 1) = 0; count(2) = 1");
        due.says(1, "no LAYERS: nothing can be dug", "ship(0, 1, 90) = 0; cargo(0, 0) = BAD; days(1) = 1; "
            + "loaded(0, 0) = 0; about(0, 2) = 1; about(0, 5) = NONE; count(4) = 0");
        due.says(1, "an empty DRAFT", "count(5) = 0; clear() = 0; ship(0, 1, 1) = 0; charter(0) = STATE; "
            + "type(120, 1) = 1");
        due.says(1, "no letter, DELAY 20 at first, no TRACE",
            "letter(0, 0) = NONE; foretold() = NONE; delay(20) = 20; trace() = 0");
        due.promise(1, "THE SWELL of each DAY 0 .. 200 is 0, if it was not told");
        RockRoad calm = new RockRoad();
        for (int day = 0; day <= 200; day++) {
            due.is("swell(" + day + ", 9)", calm.swell(day, 9), 0);
        }
        due.promise(1, "a new object has nothing of another one");
        Story.of("6 * layer(9, 9); 10 * ship(1, 9, 9); write('l9'); delay(3); swell(7, 7); turn(0); days(9)").road();
        Story.of("count(0) = 0; count(1) = 0; count(2) = 0; count(3) = 0; count(4) = 0; count(5) = 0; count(6) = 0; "
            + "delay(1) = 20; swell(7, 1) = 0; trace() = 0; letter(0, 0) = NONE").checkBy(due);
    }

    private static void layer() {
        due.says(2, "LAYERS have tons (1 .. 5000): too few", "layer(MIN, 1) = BAD; layer(-5000, 1) = BAD; "
            + "layer(-1, 1) = BAD; layer(0, 1) = BAD; count(2) = 0; layer(1, 1) = 0; layer(2, 1) = 1; "
            + "left(0) = 1; left(1) = 2");
        due.says(2, "LAYERS have tons (1 .. 5000): too many", "layer(MAX, 1) = BAD; layer(5001, 1) = BAD; "
            + "count(2) = 0; layer(5000, 1) = 0; layer(4999, 1) = 1; left(0) = 5000; left(1) = 4999");
        due.says(2, "a WORTH (1 .. 100): too little", "layer(1, MIN) = BAD; layer(1, -100) = BAD; layer(1, -1) = BAD; "
            + "layer(1, 0) = BAD; count(2) = 0; layer(60, 1) = 0; layer(60, 2) = 1; ship(0, 60, 90); ship(0, 60, 90); "
            + "days(1); about(0, 6) = 60; about(1, 6) = 120");
        due.says(2, "a WORTH (1 .. 100): too much", "layer(1, MAX) = BAD; layer(1, 101) = BAD; count(2) = 0; "
            + "layer(60, 100) = 0; layer(60, 99) = 1; ship(0, 60, 90); ship(0, 60, 90); days(1); "
            + "about(0, 6) = 6000; about(1, 6) = 5940");
        due.says(2, "both numbers wrong", "layer(0, 0) = BAD; layer(5001, 101) = BAD; layer(MIN, MAX) = BAD; "
            + "layer(MAX, MIN) = BAD; layer(0, 101) = BAD; layer(5001, 0) = BAD; count(2) = 0");
        due.says(2, "LAYERS (6 at most)", "layer(1, 1) = 0; layer(2, 1) = 1; layer(3, 1) = 2; layer(4, 1) = 3; "
            + "layer(5, 1) = 4; count(2) = 5; layer(6, 1) = 5; count(2) = 6; layer(7, 1) = FULL; layer(7, 1) = FULL; "
            + "count(2) = 6; left(5) = 6; left(6) = BAD");
        due.says(2, "FULL: one that has nothing left is a LAYER still", "6 * layer(1, 1); ship(0, 6, 90); days(1); "
            + "about(0, 5) = 0; left(0) = 0; left(5) = 0; layer(1, 1) = FULL; count(2) = 6");
        due.says(2, "BAD ahead of FULL", "6 * layer(1, 1); layer(0, 1) = BAD; layer(5001, 1) = BAD; "
            + "layer(1, 0) = BAD; layer(1, 101) = BAD; layer(MIN, 1) = BAD; layer(1, MAX) = BAD; layer(1, 1) = FULL");
        due.says(2, "a refused LAYER takes no number", "layer(5, 5) = 0; layer(5, 101) = BAD; layer(0, 5) = BAD; "
            + "layer(5, 5) = 1");
        due.says(2, "below all others, though these are dug out", "layer(60, 1) = 0; ship(0, 900, 90); days(2); "
            + "layer(1, 7) = 1; layer(1, 9) = 2; days(1); loaded(0, 2) = 2; cargo(0, 1) = 1; cargo(0, 2) = 1");
        due.says(2, "below all others on DAY 200, too", ALL_DAYS + "layer(5000, 100) = 0; left(0) = 5000");
    }

    private static void left() {
        due.says(3, "BAD: there is no such LAYER: none at all",
            "left(MIN) = BAD; left(-1) = BAD; left(0) = BAD; left(1) = BAD; left(5) = BAD; left(MAX) = BAD");
        due.says(3, "BAD: there is no such LAYER: one", "layer(8, 1); left(-1) = BAD; left(0) = 8; left(1) = BAD");
        due.says(3, "BAD: there is no such LAYER: six", "layer(1, 1); layer(2, 1); layer(3, 1); layer(4, 1); "
            + "layer(5, 1); left(5) = BAD; layer(6, 1); left(0) = 1; left(1) = 2; left(4) = 5; left(5) = 6; "
            + "left(6) = BAD; left(-1) = BAD; left(MIN) = BAD; left(MAX) = BAD");
        due.says(3, "tons that a LAYER has still: one, none", "layer(61, 1); layer(60, 1); ship(0, 900, 90); days(1); "
            + "left(0) = 1; left(1) = 60; days(1); left(0) = 0; left(1) = 1; days(1); left(0) = 0; left(1) = 0; "
            + "days(1); left(0) = 0; left(1) = 0");
        due.says(3, "tons that a LAYER has still: dug to its end on one DAY", "layer(60, 1); layer(1, 1); "
            + "ship(0, 60, 90); days(1); left(0) = 0; left(1) = 1; days(20); left(1) = 1");
        due.says(3, "asking takes nothing", "layer(5000, 1); 3 * left(0) = 5000; left(1) = BAD; left(0) = 5000");
    }

    private static void swell() {
        due.says(4, "THE SWELL of a DAY 0 .. 200: too early", "swell(MIN, 1) = BAD; swell(-1, 1) = BAD; "
            + "swell(0, 1) = 0; swell(1, 2) = 0; swell(0, 0) = 1; swell(1, 0) = 2");
        due.says(4, "THE SWELL of a DAY 0 .. 200: too late", "swell(MAX, 1) = BAD; swell(202, 1) = BAD; "
            + "swell(201, 1) = BAD; swell(200, 1) = 0; swell(199, 2) = 0; swell(200, 0) = 1; swell(199, 0) = 2");
        due.says(4, "is 0 .. 9: too low", "swell(7, MIN) = BAD; swell(7, -1) = BAD; swell(7, 0) = 0; "
            + "swell(7, 1) = 0; swell(7, 0) = 1; swell(7, 0) = 0");
        due.says(4, "is 0 .. 9: too high", "swell(7, MAX) = BAD; swell(7, 10) = BAD; swell(7, 9) = 0; "
            + "swell(7, 10) = BAD; swell(7, 8) = 9; swell(7, 8) = 8");
        due.says(4, "both numbers wrong", "swell(-1, -1) = BAD; swell(201, 10) = BAD; swell(MIN, MAX) = BAD; "
            + "swell(MAX, MIN) = BAD");
        due.says(4, "BAD: a DAY ahead of TODAY, too", "days(1); swell(0, 1) = BAD; swell(1, 1) = 0; days(8); "
            + "swell(0, 1) = BAD; swell(8, 1) = BAD; swell(9, 1) = 0; swell(10, 1) = 0; swell(9, 2) = 1");
        due.says(4, "on the last DAY", "9 * days(20); days(19); swell(198, 1) = BAD; swell(199, 1) = 0; "
            + "swell(200, 2) = 0; days(1) = 200; swell(199, 1) = BAD; swell(200, 3) = 2; swell(201, 3) = BAD; "
            + "swell(0, 1) = BAD; swell(200, 3) = 3");
        due.says(4, "told ahead of that DAY or on it", "layer(5000, 1); ship(0, 900, 90); swell(1, 8); swell(2, 9); "
            + "days(2); swell(2, 0) = 9; days(1); loaded(0, 0) = 60; loaded(0, 1) = 0; loaded(0, 2) = 60");
        due.says(4, "a refused one keeps what was told", "layer(5000, 1); ship(0, 900, 90); swell(0, 5) = 0; "
            + "swell(0, 10) = BAD; swell(0, -1) = BAD; days(1); swell(0, 0) = BAD; loaded(0, 0) = 15; "
            + "write('x'); charter(0); owed(0, 0) = 0");
        due.says(4, "of that DAY alone", "swell(100, 9); swell(99, 0) = 0; swell(101, 0) = 0; swell(100, 9) = 9");
    }

    private static void ship() {
        due.says(5, "KINDS 0, 1, 2", "ship(MIN, 1, 1) = BAD; ship(-1, 1, 1) = BAD; ship(3, 1, 1) = BAD; "
            + "ship(MAX, 1, 1) = BAD; count(1) = 0; ship(0, 1, 1) = 0; ship(1, 1, 1) = 1; ship(2, 1, 1) = 2; "
            + "about(0, 0) = 0; about(1, 0) = 1; about(2, 0) = 2");
        due.says(5, "It wants 1 .. 900 tons: too few", "ship(0, MIN, 1) = BAD; ship(0, -1, 1) = BAD; "
            + "ship(0, 0, 1) = BAD; count(1) = 0; ship(0, 1, 1) = 0; ship(0, 2, 1) = 1; about(0, 2) = 1; about(1, 2) = 2");
        due.says(5, "It wants 1 .. 900 tons: too many", "ship(0, MAX, 1) = BAD; ship(0, 901, 1) = BAD; count(1) = 0; "
            + "ship(0, 900, 1) = 0; ship(0, 899, 1) = 1; about(0, 2) = 900; about(1, 2) = 899");
        due.says(5, "has WATER for 1 .. 90 DAYS: too few", "ship(0, 1, MIN) = BAD; ship(0, 1, -1) = BAD; "
            + "ship(0, 1, 0) = BAD; count(1) = 0; ship(0, 1, 1) = 0; ship(0, 1, 2) = 1; about(0, 4) = 1; about(1, 4) = 2");
        due.says(5, "has WATER for 1 .. 90 DAYS: too many", "ship(0, 1, MAX) = BAD; ship(0, 1, 91) = BAD; count(1) = 0; "
            + "ship(0, 1, 90) = 0; ship(0, 1, 89) = 1; about(0, 4) = 90; about(1, 4) = 89");
        due.says(5, "several numbers wrong", "ship(3, 0, 1) = BAD; ship(0, 901, 91) = BAD; ship(-1, 1, 0) = BAD; "
            + "ship(MIN, MIN, MIN) = BAD; ship(MAX, MAX, MAX) = BAD; count(1) = 0");
        due.says(5, "SHIPS (10 at most), numbered as they arrive", "ship(0, 1, 1) = 0; ship(0, 1, 1) = 1; "
            + "ship(0, 1, 1) = 2; ship(0, 1, 1) = 3; ship(0, 1, 1) = 4; days(20); ship(0, 1, 1) = 5; ship(0, 1, 1) = 6; "
            + "ship(0, 1, 1) = 7; ship(0, 1, 1) = 8; count(1) = 9; ship(0, 1, 1) = 9; count(1) = 10; "
            + "ship(0, 1, 1) = FULL; ship(2, 900, 90) = FULL; count(1) = 10; about(9, 1) = 20; about(10, 1) = BAD");
        due.says(5, "FULL: one that is LOADED is a SHIP still", "layer(10, 1); 10 * ship(0, 1, 90); days(1); "
            + "count(3) = 10; ship(0, 1, 1) = FULL; count(1) = 10");
        due.says(5, "BAD ahead of FULL", "10 * ship(0, 1, 1); ship(-1, 1, 1) = BAD; ship(3, 1, 1) = BAD; "
            + "ship(0, 0, 1) = BAD; ship(0, 901, 1) = BAD; ship(0, 1, 0) = BAD; ship(0, 1, 91) = BAD; "
            + "ship(MAX, 1, 1) = BAD; ship(0, MIN, 1) = BAD; ship(0, 1, MAX) = BAD; ship(0, 1, 1) = FULL");
        due.says(5, "a refused SHIP takes no number", "ship(0, 1, 1) = 0; ship(0, 901, 1) = BAD; ship(0, 1, 1) = 1");
        due.says(5, "arrives TODAY, on DAY 200, too", ALL_DAYS + "ship(2, 900, 90) = 0; about(0, 1) = 200; "
            + "about(0, 2) = 900; about(0, 4) = 90; loaded(0, 199) = 0; owed(0, 0) = 0; shared(0, 2) = 0");
        due.says(5, "without CHARTER", "ship(0, 1, 90); write('l9d9b9xhw'); charter(0) = 1; ship(0, 1, 90) = 1; "
            + "term(1, 0) = 0; term(1, 1) = 0; term(1, 2) = 0; term(1, 3) = 0; term(1, 4) = 0; term(1, 5) = 0");
        due.says(5, "has nothing, and is not LOADED", "layer(9, 9); ship(1, 900, 90); about(0, 3) = 0; "
            + "about(0, 5) = NONE; about(0, 6) = 0; cargo(0, 0) = 0; sample(0, 1) = NONE; count(3) = 0");
    }

    private static void turn() {
        due.says(6, "BAD: there is no such SHIP: none at all",
            "turn(MIN) = BAD; turn(-1) = BAD; turn(0) = BAD; turn(9) = BAD; turn(MAX) = BAD; trace() = 0");
        due.says(6, "BAD: there is no such SHIP: one", "ship(0, 1, 1); turn(-1) = BAD; turn(0) = 0; turn(1) = BAD; "
            + "trace() = 1");
        due.says(6, "BAD: there is no such SHIP: ten", "10 * ship(0, 1, 1); turn(9) = 9; turn(10) = BAD; "
            + "turn(MIN) = BAD; turn(MAX) = BAD; turn(-1) = BAD; trace() = 1");
        due.says(6, "TRADER 10 for the DAY on which it arrived, and its number", "9 * ship(0, 1, 1); turn(0) = 0; "
            + "turn(8) = 8; " + ALL_DAYS + "ship(0, 1, 1); turn(9) = 2009; turn(8) = 8; trace() = 4");
        due.says(6, "MAIL up, less 500", "9 * ship(1, 1, 1); turn(0) = -500; turn(8) = -492; " + ALL_DAYS
            + "ship(1, 1, 1); turn(9) = 1509; turn(8) = -492; trace() = 44");
        due.says(6, "HELD up and 5000", "9 * ship(2, 1, 1); turn(0) = 4500; turn(8) = 4508; " + ALL_DAYS
            + "ship(2, 1, 1); turn(9) = 6509; trace() = 333");
        due.says(6, "HELD up, if TODAY is at least 9 DAYS behind the one of its arrival", "ship(2, 1, 1); days(1); "
            + "turn(0) = 4500; days(7); turn(0) = 4500; days(1); turn(0) = -500; days(1); turn(0) = -500; "
            + "9 * days(20); turn(0) = -500; days(10); turn(0) = -500");
        due.says(6, "at least 9 DAYS behind a later arrival", "days(20); ship(2, 1, 1); days(8); turn(0) = 4700; "
            + "days(1); turn(0) = -300");
        due.says(6, "at least 9 DAYS behind on DAY 200", "9 * days(20); days(11); ship(2, 1, 1); days(1); "
            + "ship(2, 1, 1); days(8); count(0) = 200; turn(0) = 1410; turn(1) = 6421");
        due.says(6, "at least 9 DAYS behind: one that is LOADED, too", "layer(1, 1); ship(2, 1, 90); days(8); about(0, 5) = 0; "
            + "turn(0) = 4500; days(1); turn(0) = -500");
        due.says(6, "at least 9 DAYS behind: one that is DRY, too", "ship(2, 1, 1); days(8); count(6) = 1; turn(0) = 4500; "
            + "days(1); turn(0) = -500");
        due.says(6, "a TURN can be -1, as BAD is", "9 * ship(0, 1, 1); 2 * days(20); days(9); ship(1, 1, 1); turn(9) = -1; "
            + "trace() = 11; turn(10) = -1; trace() = 11");
        due.says(6, "one that is LOADED or DRY has the same TURN", "layer(1, 1); ship(0, 1, 9); ship(1, 1, 1); "
            + "ship(2, 1, 9); days(1); about(0, 5) = 0; count(6) = 1; turn(0) = 0; turn(1) = -499; turn(2) = 4502");
    }

    private static void daysBounds() {
        due.says(7, "So many DAYS (1 .. 20)", "days(MIN) = BAD; days(-20) = BAD; days(-1) = BAD; days(0) = BAD; "
            + "days(21) = BAD; days(200) = BAD; days(MAX) = BAD; count(0) = 0; days(1) = 1; days(2) = 3; "
            + "days(19) = 22; days(20) = 42; count(0) = 42");
        due.says(7, "STATE: it would be above 200, by one", "9 * days(20); days(1) = 181; days(20) = STATE; "
            + "count(0) = 181; days(19) = 200");
        due.says(7, "200 at most, by a whole call", "9 * days(20); days(20) = 200; count(0) = 200");
        due.says(7, "STATE: one DAY ahead of the last", "9 * days(20); days(19) = 199; days(2) = STATE; "
            + "days(20) = STATE; count(0) = 199; days(1) = 200");
        due.says(7, "STATE: on DAY 200", ALL_DAYS + "days(1) = STATE; days(2) = STATE; days(19) = STATE; "
            + "days(20) = STATE; count(0) = 200");
        due.says(7, "BAD ahead of STATE", ALL_DAYS + "days(0) = BAD; days(-1) = BAD; days(21) = BAD; days(MIN) = BAD; "
            + "days(MAX) = BAD; days(1) = STATE");
        due.says(7, "a refused call lets not one DAY go", "layer(900, 1); 9 * days(20); days(15); ship(0, 900, 90); "
            + "days(6) = STATE; days(0) = BAD; days(21) = BAD; count(0) = 195; about(0, 3) = 0; about(0, 4) = 90; "
            + "count(4) = 0; loaded(0, 195) = -2; owed(0, 0) = 0; days(5) = 200; about(0, 3) = 300");
        due.says(7, "the first DAY and the last one go as others", "layer(5000, 1); ship(0, 60, 90); days(1); "
            + "about(0, 5) = 0; 9 * days(20); days(18); ship(0, 60, 90); days(1) = 200; about(1, 5) = 199; "
            + "loaded(1, 199) = 60; count(4) = 120");
        due.says(7, "twenty at once are twenty of one", "layer(5000, 1); ship(0, 900, 12); ship(2, 900, 90); "
            + "ship(1, 200, 90); days(20); about(0, 3) = 660; about(1, 5) = 17; about(2, 5) = 3; count(4) = 1760");
        due.says(7, "twenty of one are twenty at once", "layer(5000, 1); ship(0, 900, 12); ship(2, 900, 90); "
            + "ship(1, 200, 90); 20 * days(1); about(0, 3) = 660; about(1, 5) = 17; about(2, 5) = 3; count(4) = 1760");
    }

    private static void daysWater() {
        due.says(7, "one DAY of WATER less: 2, 1, 0", "layer(900, 1); ship(0, 900, 3); days(1); about(0, 4) = 2; "
            + "loaded(0, 0) = 60; days(1); about(0, 4) = 1; loaded(0, 1) = 60; count(6) = 0; days(1); about(0, 4) = 0; "
            + "loaded(0, 2) = -1; count(6) = 1");
        due.says(7, "0 at least", "ship(0, 900, 1); days(1); about(0, 4) = 0; days(1); about(0, 4) = 0; "
            + ALL_DAYS + "days(18); about(0, 4) = 0; boat(0, 1) = 1");
        due.says(7, "one with 0 is DRY (on this DAY): the first one", "layer(900, 1); ship(0, 900, 1); days(1); "
            + "loaded(0, 0) = -1; about(0, 3) = 0; count(6) = 1; left(0) = 900");
        due.says(7, "each SHIP that is not LOADED: one that is keeps its WATER", "layer(60, 1); ship(0, 60, 2); days(1); "
            + "about(0, 5) = 0; about(0, 4) = 1; days(20); about(0, 4) = 1; count(6) = 0; loaded(0, 1) = 0");
        due.says(7, "WATER for 90 DAYS: DRY on the 90th", "ship(0, 900, 90); 4 * days(20); days(9) = 89; "
            + "about(0, 4) = 1; loaded(0, 88) = 0; count(6) = 0; days(1); about(0, 4) = 0; loaded(0, 89) = -1; "
            + "count(6) = 1");
        due.says(7, "DRY with shut LIGHTERS, too", "layer(9, 1); ship(0, 9, 1); swell(0, 9); days(1); loaded(0, 0) = -1");
    }

    private static void daysPlaces() {
        due.says(7, "the first two load 60 tons each, the others 15: one SHIP", "layer(5000, 1); ship(0, 900, 90); "
            + "days(1); loaded(0, 0) = 60; count(4) = 60");
        due.says(7, "the first two load 60 tons each, the others 15: three SHIPS", "layer(5000, 1); "
            + "3 * ship(0, 900, 90); days(1); loaded(0, 0) = 60; loaded(1, 0) = 60; loaded(2, 0) = 15");
        due.says(7, "the first two load 60 tons each, the others 15: ten SHIPS", "layer(5000, 1); "
            + "10 * ship(0, 900, 90); days(1); loaded(0, 0) = 60; loaded(1, 0) = 60; loaded(2, 0) = 15; "
            + "loaded(8, 0) = 15; loaded(9, 0) = 15; count(4) = 240; left(0) = 4760");
        String three = "layer(5000, 1); 3 * ship(0, 900, 90); ";
        due.says(7, "CHUTES are shut above 4: 0, 3 and 4 are not", three + "swell(0, 0); swell(1, 3); swell(2, 4); "
            + "days(3); loaded(0, 0) = 60; loaded(1, 1) = 60; loaded(0, 2) = 60; loaded(1, 2) = 60; loaded(2, 2) = 15");
        due.says(7, "CHUTES are shut above 4: 5 is", three + "swell(0, 5); days(1); loaded(0, 0) = 15; "
            + "loaded(1, 0) = 15; loaded(2, 0) = 15; count(4) = 45");
        due.says(7, "LIGHTERS are shut above 7: 6 and 7 are not", three + "swell(0, 6); swell(1, 7); days(2); "
            + "loaded(0, 0) = 15; loaded(2, 0) = 15; loaded(0, 1) = 15; loaded(1, 1) = 15; loaded(2, 1) = 15");
        due.says(7, "LIGHTERS are shut above 7: 8 and 9 are", three + "swell(0, 8); swell(1, 9); days(2); "
            + "loaded(0, 0) = 0; loaded(1, 0) = 0; loaded(2, 0) = 0; loaded(0, 1) = 0; loaded(2, 1) = 0; count(4) = 0; "
            + "about(0, 4) = 88");
        due.says(7, "neither LOADED nor DRY: a DRY one takes no place", "layer(5000, 1); ship(1, 900, 1); "
            + "3 * ship(0, 900, 90); days(1); loaded(0, 0) = -1; loaded(1, 0) = 60; loaded(2, 0) = 60; loaded(3, 0) = 15");
        due.says(7, "neither LOADED nor DRY: a LOADED one takes no place from the next DAY on", "layer(5000, 1); "
            + "ship(1, 1, 90); 3 * ship(0, 900, 90); days(2); loaded(0, 0) = 1; loaded(1, 0) = 60; loaded(2, 0) = 15; "
            + "loaded(0, 1) = 0; loaded(1, 1) = 60; loaded(2, 1) = 60; loaded(3, 1) = 15");
        due.says(7, "by TURNS: MAIL 49 and 50 DAYS later", "2 * ship(0, 900, 90); 2 * days(20); days(9); "
            + "ship(1, 900, 90); days(1); ship(1, 900, 90); turn(2) = -8; turn(3) = 3; layer(5000, 1); days(1); "
            + "loaded(0, 50) = 60; loaded(1, 50) = 15; loaded(2, 50) = 60; loaded(3, 50) = 15");
        due.says(7, "by TURNS as they are now: HELD up to the 8th DAY, first on the 9th", "layer(5000, 1); "
            + "ship(2, 900, 90); 2 * ship(0, 900, 90); days(10); loaded(0, 7) = 15; loaded(0, 8) = 15; "
            + "loaded(0, 9) = 60; loaded(2, 8) = 60; loaded(1, 9) = 60; loaded(2, 9) = 15");
        due.says(7, "by TURNS as they are now: HELD behind those of its 8th DAY, ahead of them on its 9th",
            "ship(2, 900, 90); days(8); 2 * ship(0, 900, 90); layer(5000, 1); days(2); loaded(0, 8) = 15; loaded(1, 8) = 60; "
            + "loaded(2, 8) = 60; loaded(0, 9) = 60; loaded(1, 9) = 60; loaded(2, 9) = 15");
        due.says(7, "by TURNS as they are now: MAIL and one HELD no more by arrival", "ship(2, 900, 90); ship(1, 900, 90); "
            + "ship(1, 900, 90); days(8); layer(5000, 1); days(2); loaded(0, 8) = 15; loaded(1, 8) = 60; loaded(2, 8) = 60; "
            + "loaded(0, 9) = 60; loaded(1, 9) = 60; loaded(2, 9) = 15");
        due.says(7, "without SHIPS and without LAYERS a DAY goes, too", "days(1) = 1; count(4) = 0; ship(0, 5, 5); "
            + "days(1) = 2; loaded(0, 0) = 0; loaded(0, 1) = 0; about(0, 4) = 4");
    }

    private static void daysTons() {
        due.says(7, "what each still wants: 59, 60, 61 at CHUTES", "layer(5000, 1); ship(0, 59, 90); days(1); "
            + "ship(0, 60, 90); days(1); ship(0, 61, 90); days(2); loaded(0, 0) = 59; about(0, 5) = 0; "
            + "loaded(1, 1) = 60; about(1, 5) = 1; loaded(2, 2) = 60; loaded(2, 3) = 1; about(2, 5) = 3");
        due.says(7, "what each still wants: 14, 15, 16 from LIGHTERS", "layer(5000, 1); 2 * ship(0, 900, 90); "
            + "ship(0, 14, 90); ship(0, 15, 90); ship(0, 16, 90); days(2); loaded(2, 0) = 14; about(2, 5) = 0; "
            + "loaded(3, 0) = 15; about(3, 5) = 0; loaded(4, 0) = 15; loaded(4, 1) = 1; about(4, 5) = 1");
        due.says(7, "what each still wants: one ton", "layer(5000, 1); ship(0, 1, 90); days(1); loaded(0, 0) = 1; "
            + "about(0, 5) = 0; about(0, 2) = 0; left(0) = 4999");
        due.says(7, "what LAYERS have at most: 59", "layer(59, 1); ship(0, 900, 90); days(1); loaded(0, 0) = 59; "
            + "left(0) = 0; days(1); loaded(0, 1) = 0");
        due.says(7, "what LAYERS have at most: 60 and 61", "layer(60, 1); ship(0, 900, 90); days(1); left(0) = 0; "
            + "layer(61, 1); days(1); loaded(0, 1) = 60; left(1) = 1; days(1); loaded(0, 2) = 1; left(1) = 0");
        due.says(7, "what LAYERS have at most: 119, one behind the other", "layer(119, 1); 3 * ship(0, 900, 90); "
            + "days(1); loaded(0, 0) = 60; loaded(1, 0) = 59; loaded(2, 0) = 0");
        due.says(7, "what LAYERS have at most: 121, one behind the other", "layer(121, 1); 4 * ship(0, 900, 90); "
            + "days(1); loaded(0, 0) = 60; loaded(1, 0) = 60; loaded(2, 0) = 1; loaded(3, 0) = 0");
        due.says(7, "what LAYERS have at most: the first by TURN, not by number", "layer(61, 1); 2 * ship(0, 900, 90); "
            + "ship(1, 900, 90); days(1); loaded(2, 0) = 60; loaded(0, 0) = 1; loaded(1, 0) = 0");
        due.says(7, "the topmost LAYER that has some: over all six in one load", "6 * layer(10, 1); ship(0, 59, 90); "
            + "ship(0, 59, 90); days(1); cargo(0, 0) = 10; cargo(0, 4) = 10; cargo(0, 5) = 9; left(4) = 0; left(5) = 0; "
            + "cargo(1, 4) = 0; cargo(1, 5) = 1");
        due.says(7, "A SHIP that has all it wants is LOADED, on this DAY", "layer(75, 1); 2 * ship(0, 900, 90); "
            + "ship(0, 15, 90); days(1); about(2, 5) = NONE; count(3) = 0; layer(135, 1); days(1); about(2, 5) = 1; "
            + "count(3) = 1; about(2, 2) = 0; about(2, 3) = 15");
        due.says(7, "it wants 900: LOADED on its 15th DAY", "layer(5000, 1); ship(0, 900, 90); days(14); "
            + "about(0, 3) = 840; about(0, 5) = NONE; days(1); about(0, 3) = 900; about(0, 5) = 14; left(0) = 4100");
    }

    private static void about() {
        due.says(8, "BAD: there is no such SHIP", "about(0, 0) = BAD; about(-1, 0) = BAD; ship(0, 1, 1); "
            + "about(0, 0) = 0; about(1, 0) = BAD; about(-1, 0) = BAD; about(MIN, 0) = BAD; about(MAX, 0) = BAD; "
            + "9 * ship(1, 1, 1); about(9, 0) = 1; about(10, 0) = BAD; about(10, 6) = BAD");
        due.says(8, "BAD: no such number of it", "ship(2, 7, 5); about(0, MIN) = BAD; about(0, -1) = BAD; "
            + "about(0, 0) = 2; about(0, 1) = 0; about(0, 5) = NONE; about(0, 6) = 0; about(0, 7) = BAD; "
            + "about(0, MAX) = BAD; about(0, 8) = BAD");
        due.says(8, "both wrong", "about(0, 7) = BAD; ship(2, 7, 5); about(1, 7) = BAD; about(-1, -1) = BAD; "
            + "about(MIN, MAX) = BAD");
        due.says(8, "0 KIND", "ship(0, 1, 1); ship(1, 1, 1); ship(2, 1, 1); about(0, 0) = 0; about(1, 0) = 1; "
            + "about(2, 0) = 2; days(9); about(2, 0) = 2");
        due.says(8, "1 the DAY of its arrival: 0 and 200", "ship(0, 1, 1); " + ALL_DAYS + "ship(0, 1, 1); "
            + "about(0, 1) = 0; about(1, 1) = 200");
        due.says(8, "2 tons it wants still, 3 tons it has: from all to none", "layer(60, 1); layer(1, 1); "
            + "ship(0, 61, 90); about(0, 2) = 61; about(0, 3) = 0; days(1); about(0, 2) = 1; about(0, 3) = 60; days(1); "
            + "about(0, 2) = 0; about(0, 3) = 61; days(1); about(0, 2) = 0; about(0, 3) = 61");
        due.says(8, "4 WATER: 90, 89, 0", "ship(0, 1, 90); about(0, 4) = 90; days(1); about(0, 4) = 89; 5 * days(20); "
            + "about(0, 4) = 0");
        due.says(8, "5 the DAY on which it was LOADED (NONE): DAY 0", "layer(60, 1); ship(0, 60, 90); "
            + "about(0, 5) = NONE; days(1); about(0, 5) = 0; days(20); about(0, 5) = 0");
        due.says(8, "5 the DAY on which it was LOADED (NONE): DAY 199", "layer(1, 1); 9 * days(20); days(19); "
            + "ship(0, 1, 90); ship(0, 1, 90); days(1); about(0, 5) = 199; about(1, 5) = NONE");
        due.says(8, "6 WORTH: the largest", "layer(900, 100); ship(0, 900, 90); about(0, 6) = 0; days(15); "
            + "about(0, 6) = 90000");
        due.says(8, "6 WORTH: of all six LAYERS", "layer(10, 1); layer(10, 2); layer(10, 4); layer(10, 8); "
            + "layer(10, 16); layer(10, 32); ship(0, 60, 90); days(1); about(0, 6) = 630");
    }

    private static void cargo() {
        due.says(9, "BAD: there is no such SHIP", "layer(9, 1); cargo(0, 0) = BAD; ship(0, 5, 90); cargo(0, 0) = 0; "
            + "cargo(-1, 0) = BAD; cargo(1, 0) = BAD; cargo(MIN, 0) = BAD; cargo(MAX, 0) = BAD; 9 * ship(0, 1, 1); "
            + "cargo(9, 0) = 0; cargo(10, 0) = BAD");
        due.says(9, "BAD: there is no such LAYER", "ship(0, 5, 90); cargo(0, 0) = BAD; cargo(0, -1) = BAD; layer(9, 1); "
            + "cargo(0, 0) = 0; cargo(0, -1) = BAD; cargo(0, 1) = BAD; cargo(0, MIN) = BAD; cargo(0, MAX) = BAD; "
            + "5 * layer(9, 1); cargo(0, 5) = 0; cargo(0, 6) = BAD");
        due.says(9, "neither", "cargo(0, 0) = BAD; cargo(MIN, MIN) = BAD; cargo(MAX, MAX) = BAD; cargo(-1, -1) = BAD");
        due.says(9, "tons of a LAYER: none, one, all", "layer(60, 1); layer(1, 1); layer(9, 1); ship(0, 61, 90); days(2); "
            + "cargo(0, 0) = 60; cargo(0, 1) = 1; cargo(0, 2) = 0; left(2) = 9");
        due.says(9, "tons of a LAYER: the last SHIP and the last LAYER", "6 * layer(40, 1); 10 * ship(0, 900, 90); "
            + "days(1); cargo(0, 0) = 40; cargo(0, 1) = 20; cargo(1, 1) = 20; cargo(1, 2) = 40; cargo(9, 4) = 0; "
            + "cargo(9, 5) = 15; left(5) = 0");
        due.says(9, "a LAYER that came later", "ship(0, 900, 90); days(1); layer(70, 1); days(2); cargo(0, 0) = 70; "
            + "layer(1, 1); cargo(0, 1) = 0; days(1); cargo(0, 1) = 1; cargo(0, 0) = 70");
    }

    private static void loaded() {
        due.says(10, "the DAY is not 0 .. TODAY less 1: on DAY 0", "ship(0, 5, 5); loaded(0, -1) = -2; "
            + "loaded(0, 0) = -2; loaded(0, 1) = -2; loaded(0, MIN) = -2; loaded(0, MAX) = -2");
        due.says(10, "the DAY is not 0 .. TODAY less 1: on DAY 1", "layer(9, 1); ship(0, 5, 5); days(1); "
            + "loaded(0, -1) = -2; loaded(0, 0) = 5; loaded(0, 1) = -2; loaded(0, 2) = -2");
        due.says(10, "the DAY is not 0 .. TODAY less 1: on DAY 200", "ship(0, 5, 5); " + ALL_DAYS + "loaded(0, 0) = 0; "
            + "loaded(0, 198) = -1; loaded(0, 199) = -1; loaded(0, 200) = -2; loaded(0, 201) = -2; loaded(0, -1) = -2; "
            + "loaded(0, MIN) = -2; loaded(0, MAX) = -2");
        due.says(10, "BAD is told as -2: no such SHIP", "days(1); loaded(0, 0) = -2; ship(0, 5, 5); loaded(0, 0) = 0; "
            + "loaded(-1, 0) = -2; loaded(1, 0) = -2; loaded(MIN, 0) = -2; loaded(MAX, 0) = -2; 9 * ship(0, 5, 5); "
            + "loaded(9, 0) = 0; loaded(10, 0) = -2; loaded(10, 1) = -2; loaded(MAX, MIN) = -2");
        due.says(10, "-1: it was DRY", "layer(900, 1); ship(0, 900, 2); days(3); boat(0, 2); days(2); loaded(0, 0) = 60; "
            + "loaded(0, 1) = -1; loaded(0, 2) = -1; loaded(0, 3) = 60; loaded(0, 4) = -1");
        due.says(10, "0 ahead of its arrival", "layer(900, 1); days(5); ship(0, 900, 90); ship(0, 900, 1); days(2); "
            + "loaded(0, 0) = 0; loaded(0, 4) = 0; loaded(0, 5) = 60; loaded(1, 4) = 0; loaded(1, 5) = -1");
        due.says(10, "0 behind it was LOADED", "layer(900, 1); ship(0, 61, 3); days(9); loaded(0, 1) = 1; "
            + "loaded(0, 2) = 0; loaded(0, 3) = 0; loaded(0, 8) = 0");
        due.says(10, "it loaded nothing: 0", "layer(60, 1); ship(0, 900, 90); swell(0, 8); days(3); loaded(0, 0) = 0; "
            + "loaded(0, 1) = 60; loaded(0, 2) = 0");
    }

    private static void boat() {
        due.says(11, "BAD: n 1 .. 90", "ship(0, 5, 1); days(1); boat(0, MIN) = BAD; boat(0, -1) = BAD; boat(0, 0) = BAD; "
            + "boat(0, 91) = BAD; boat(0, MAX) = BAD; about(0, 4) = 0; boat(0, 1) = 1; boat(0, 2) = 3");
        due.says(11, "n 1 .. 90: 89 and 90", "2 * ship(0, 5, 1); days(1); boat(0, 89) = 89; boat(1, 90) = 90; "
            + "boat(1, 91) = BAD");
        due.says(11, "90 at most in all", "ship(0, 5, 88); boat(0, 1) = 89; boat(0, 1) = 90; boat(0, 1) = 90; "
            + "boat(0, 90) = 90; about(0, 4) = 90; days(1); about(0, 4) = 89; boat(0, 2) = 90");
        due.says(11, "90 at most in all: by much", "ship(0, 5, 89); boat(0, 90) = 90; about(0, 4) = 90");
        due.says(11, "BAD: there is no such SHIP", "boat(0, 1) = BAD; ship(0, 5, 5); boat(-1, 1) = BAD; boat(1, 1) = BAD; "
            + "boat(MIN, 1) = BAD; boat(MAX, 1) = BAD; boat(MAX, 91) = BAD; 9 * ship(0, 5, 5); boat(9, 1) = 6; "
            + "boat(10, 1) = BAD");
        due.says(11, "STATE: it is LOADED", "layer(60, 1); ship(0, 60, 9); boat(0, 1) = 10; days(1); boat(0, 1) = STATE; "
            + "boat(0, 90) = STATE; about(0, 4) = 9; days(20); boat(0, 1) = STATE; about(0, 4) = 9");
        due.says(11, "STATE: not one ton ahead of it", "layer(59, 1); ship(0, 60, 9); days(1); about(0, 2) = 1; "
            + "boat(0, 1) = 9; layer(1, 1); days(1); boat(0, 1) = STATE; about(0, 4) = 8");
        due.says(11, "BAD ahead of STATE", "layer(60, 1); ship(0, 60, 9); days(1); boat(0, 0) = BAD; boat(0, 91) = BAD; "
            + "boat(0, -1) = BAD; boat(0, MIN) = BAD; boat(0, MAX) = BAD; boat(1, 1) = BAD; boat(0, 1) = STATE");
        due.says(11, "to one that is DRY", "layer(60, 1); ship(0, 60, 1); days(1); count(6) = 1; boat(0, 1) = 1; "
            + "count(6) = 0; days(1); loaded(0, 1) = -1; count(6) = 1; boat(0, 2) = 2; days(1); loaded(0, 2) = 60; "
            + "about(0, 4) = 1");
        due.says(11, "on DAY 200", "ship(0, 5, 1); " + ALL_DAYS + "count(6) = 1; boat(0, 90) = 90; count(6) = 0");
    }

    private static void sample() {
        due.says(12, "by k (1 .. 9)", "layer(18, 50); ship(0, 18, 90); days(1); sample(0, MIN) = BAD; sample(0, -1) = BAD; "
            + "sample(0, 0) = BAD; sample(0, 1) = 50; sample(0, 2) = 50; sample(0, 8) = 50; sample(0, 9) = 50; "
            + "sample(0, 10) = BAD; sample(0, MAX) = BAD");
        due.says(12, "BAD: there is no such SHIP", "sample(0, 1) = BAD; ship(0, 1, 1); sample(0, 1) = NONE; "
            + "sample(-1, 1) = BAD; sample(1, 1) = BAD; sample(MIN, 1) = BAD; sample(MAX, 1) = BAD; sample(MAX, 0) = BAD; "
            + "9 * ship(0, 1, 1); sample(9, 1) = NONE; sample(10, 1) = BAD");
        due.says(12, "BAD ahead of NONE", "ship(0, 1, 1); sample(0, 0) = BAD; sample(0, 10) = BAD; sample(0, 9) = NONE");
        due.says(12, "NONE without: fewer than k tons", "layer(60, 7); ship(0, 1, 90); ship(0, 8, 90); days(1); "
            + "sample(0, 1) = 7; sample(0, 2) = NONE; sample(0, 9) = NONE; sample(1, 8) = 7; sample(1, 9) = NONE");
        due.says(12, "the k-th: k tons are enough", "layer(8, 1); layer(1, 90); layer(60, 5); ship(0, 9, 90); "
            + "ship(0, 9, 90); days(1); sample(0, 9) = 90; sample(0, 8) = 1; sample(1, 9) = 5; sample(1, 1) = 5");
        due.says(12, "the k-th, 2 k-th, ..: up to 2 k less 1, and 2 k", "layer(9, 10); layer(8, 20); layer(1, 70); "
            + "ship(0, 17, 90); days(1); sample(0, 9) = 10; ship(0, 18, 90); sample(1, 9) = NONE; "
            + "layer(17, 30); days(1); sample(1, 9) = 30; cargo(1, 2) = 1");
        due.says(12, "the 2 k-th", "layer(9, 10); layer(8, 20); layer(1, 70); ship(0, 18, 90); days(1); "
            + "sample(0, 9) = 40; sample(0, 6) = 33; sample(0, 1) = 17");
        due.says(12, "rounded down", "layer(1, 1); layer(1, 2); ship(0, 2, 90); days(1); sample(0, 1) = 1; "
            + "sample(0, 2) = 2");
        due.says(12, "rounded down: of three", "layer(2, 100); layer(1, 99); ship(0, 3, 90); days(1); sample(0, 1) = 99; "
            + "sample(0, 3) = 99; sample(0, 2) = 100");
        due.says(12, "the order in which they came, over DAYS and LAYERS", "layer(61, 10); layer(2, 90); layer(900, 1); "
            + "ship(0, 64, 90); days(2); sample(0, 9) = 21; sample(0, 8) = 8; sample(0, 7) = 18; cargo(0, 0) = 61");
        due.says(12, "of all six LAYERS", "layer(10, 1); layer(10, 2); layer(10, 4); layer(10, 8); layer(10, 16); "
            + "layer(10, 32); ship(0, 60, 90); days(1); sample(0, 1) = 10; sample(0, 4) = 11; sample(0, 6) = 11; "
            + "sample(0, 9) = 10");
        due.says(12, "the most tons", "layer(899, 100); layer(1, 1); ship(0, 900, 90); days(15); about(0, 5) = 14; "
            + "sample(0, 1) = 99; sample(0, 9) = 99; sample(0, 7) = 100; sample(0, 8) = 100");
    }
}
