/** Promises 19 to 23 at their bounds: each sentence that names one, on an object of its own. */
public final class LetterBoundsTest {
    private static final Due due = new Due();
    /** Up to the last DAY: ten calls. */
    private static final String ALL_DAYS = "10 * days(20); ";

    public static void main(String[] args) {
        delay();
        letterBounds();
        letterComes();
        letterTells();
        foretoldNone();
        foretoldDays();
        foretoldRounds();
        count();
        trace();
        due.covers(19, 23);
        due.end();
    }

    private static void delay() {
        due.says(19, "DELAY (0 .. 60; 20 at first)", "delay(MIN) = BAD; delay(-1) = BAD; delay(61) = BAD; delay(MAX) = BAD; "
            + "delay(0) = 20; delay(1) = 0; delay(59) = 1; delay(60) = 59; delay(60) = 60");
        due.says(19, "a refused one keeps what it was", "delay(7) = 20; delay(61) = BAD; delay(-1) = BAD; delay(MIN) = BAD; "
            + "delay(MAX) = BAD; delay(7) = 7; days(1); delay(7) = 7");
        due.says(19, "a refused one is not of the letter", "delay(3); delay(61) = BAD; delay(-1) = BAD; days(3); "
            + "letter(0, 2) = 3");
        due.says(19, "on DAY 200", ALL_DAYS + "delay(0) = 20; delay(60) = 0; delay(61) = BAD");
        due.says(19, "20 at first: the letter of DAY 0", "days(19); letter(0, 2) = NONE; days(1); letter(0, 2) = 20");
    }

    private static void letterBounds() {
        due.says(20, "BAD: a DAY 0 .. 200", "letter(MIN, 0) = BAD; letter(-1, 0) = BAD; letter(0, 0) = NONE; "
            + "letter(1, 0) = NONE; letter(199, 0) = NONE; letter(200, 0) = NONE; letter(201, 0) = BAD; letter(MAX, 0) = BAD");
        due.says(20, "BAD: a DAY 0 .. 200, on DAY 200", "delay(0); " + ALL_DAYS + "letter(-1, 2) = BAD; letter(0, 2) = 0; "
            + "letter(198, 2) = 198; letter(199, 2) = 199; letter(200, 2) = NONE; letter(201, 2) = BAD; "
            + "letter(MIN, 2) = BAD; letter(MAX, 2) = BAD");
        due.says(20, "BAD: no such number of it", "delay(0); days(1); letter(0, MIN) = BAD; letter(0, -1) = BAD; "
            + "letter(0, 0) = 0; letter(0, 1) = 0; letter(0, 2) = 0; letter(0, 3) = BAD; letter(0, MAX) = BAD");
        due.says(20, "BAD ahead of NONE", "letter(0, 3) = BAD; letter(0, -1) = BAD; letter(200, 3) = BAD; "
            + "letter(200, MIN) = BAD; letter(0, 2) = NONE; days(1); letter(0, 3) = BAD; letter(0, 2) = NONE");
        due.says(20, "both wrong", "letter(-1, -1) = BAD; letter(201, 3) = BAD; letter(MIN, MAX) = BAD; "
            + "letter(MAX, MIN) = BAD");
    }

    private static void letterComes() {
        due.says(20, "there is none (yet)", "delay(0); letter(0, 0) = NONE; days(1); letter(0, 2) = 0; letter(1, 0) = NONE; "
            + "letter(1, 2) = NONE; days(1); letter(1, 2) = 1; letter(2, 2) = NONE");
        due.says(20, "it comes DELAY DAYS behind: 1", "delay(1); days(1); letter(0, 2) = 1; letter(1, 2) = NONE");
        due.says(20, "it has not come by TODAY: 2", "delay(2); days(1); letter(0, 0) = NONE; letter(0, 1) = NONE; "
            + "letter(0, 2) = NONE; days(1); letter(0, 0) = 0; letter(0, 1) = 0; letter(0, 2) = 2; letter(1, 2) = NONE");
        due.says(20, "it has not come by TODAY: 60", "delay(60); 2 * days(20); days(19); letter(0, 2) = NONE; days(1); "
            + "letter(0, 2) = 60; letter(1, 2) = NONE; days(1); letter(1, 2) = 61");
        due.says(20, "it has not come by TODAY: behind DAY 200 it never does", "delay(60); " + ALL_DAYS
            + "letter(139, 2) = 199; letter(140, 2) = 200; letter(141, 2) = NONE; letter(199, 2) = NONE; "
            + "letter(200, 2) = NONE; delay(0); letter(141, 2) = NONE");
        due.says(20, "as it was on that DAY", "delay(5); days(1); delay(0); letter(0, 2) = NONE; days(1); "
            + "letter(0, 2) = NONE; letter(1, 2) = 1; delay(60); days(2); letter(0, 2) = NONE; letter(2, 2) = NONE; days(1); "
            + "letter(0, 2) = 5; letter(1, 2) = 1; letter(2, 2) = NONE");
        due.says(20, "as it was on that DAY: the last of several", "delay(9); delay(1); days(1); letter(0, 2) = 1");
        due.says(20, "one a DAY, of many that go at once", "delay(3); days(20); letter(0, 2) = 3; letter(16, 2) = 19; "
            + "letter(17, 2) = 20; letter(18, 2) = NONE");
    }

    private static void letterTells() {
        due.says(20, "QUEUE: no SHIPS", "delay(0); days(1); letter(0, 0) = 0; letter(0, 1) = 0");
        due.says(20, "QUEUE: the largest, nothing DUG", "delay(0); 10 * ship(0, 900, 90); days(1); letter(0, 0) = 9000; "
            + "letter(0, 1) = 0");
        due.says(20, "DUG of that DAY: the largest", "delay(0); layer(5000, 1); 10 * ship(0, 900, 90); days(2); "
            + "letter(0, 0) = 8760; letter(0, 1) = 240; letter(1, 0) = 8520; letter(1, 1) = 240");
        due.says(20, "behind all that is done: one that was LOADED on it", "delay(0); layer(60, 1); ship(0, 60, 90); days(2); "
            + "letter(0, 0) = 0; letter(0, 1) = 60; letter(1, 0) = 0; letter(1, 1) = 0");
        due.says(20, "not LOADED: a DRY one waits, too", "delay(0); layer(60, 1); ship(0, 50, 1); days(1); "
            + "letter(0, 0) = 50; letter(0, 1) = 0");
        due.says(20, "it tells its DAY, whatever comes later", "delay(2); layer(5000, 1); ship(0, 100, 90); days(1); "
            + "ship(0, 900, 90); days(1); letter(0, 0) = 40; letter(0, 1) = 60; days(1); letter(1, 0) = 840; "
            + "letter(1, 1) = 100");
        due.says(20, "of the last DAY", "delay(1); layer(5000, 1); 9 * days(20); days(19); ship(0, 900, 90); days(1); "
            + "letter(199, 0) = 840; letter(199, 1) = 60; letter(199, 2) = 200; letter(198, 0) = 0");
    }

    private static void foretoldNone() {
        due.says(21, "NONE: no letter came: none is written", "foretold() = NONE; layer(900, 1); ship(0, 900, 90); delay(0); "
            + "foretold() = NONE; days(1); foretold() = 14");
        due.says(21, "NONE: no letter came: one DAY ahead", "layer(900, 1); ship(0, 900, 90); days(19); foretold() = NONE; "
            + "days(1); foretold() = 14");
        due.says(21, "NONE: no letter came: DELAY 60", "layer(900, 1); ship(0, 900, 90); delay(60); 2 * days(20); days(19); "
            + "foretold() = NONE; delay(0); foretold() = NONE; delay(60); days(1); foretold() = 14");
        due.says(21, "NONE: nothing was DUG on them", "delay(0); ship(0, 900, 90); days(7); foretold() = NONE; layer(1, 1); "
            + "days(1); foretold() = 6293; days(6); foretold() = 6293; days(1); foretold() = NONE");
        due.says(21, "NONE: nothing was DUG, and nothing wanted", "delay(0); days(1); foretold() = NONE");
        due.says(21, "what has come by TODAY: on DAY 200", "delay(60); layer(5000, 1); 7 * days(20); ship(0, 900, 90); "
            + "days(1) = 141; delay(60); 2 * days(20); days(18) = 199; foretold() = NONE; days(1) = 200; foretold() = 98; "
            + "letter(140, 2) = 200");
    }

    private static void foretoldDays() {
        String thin = "delay(0); layer(60, 1); ship(0, 100, 90); ";
        due.says(21, "as many as there are: one DAY", thin + "days(1); foretold() = 1");
        due.says(21, "as many as there are: two DAYS", thin + "days(2); foretold() = 2");
        due.says(21, "as many as there are: six DAYS", thin + "days(6); foretold() = 4");
        due.says(21, "and of the six DAYS ahead of it: seven", thin + "days(7); foretold() = 5");
        due.says(21, "and of the six DAYS ahead of it: not the seventh", thin + "days(8); foretold() = NONE");
        due.says(21, "and of the six DAYS ahead of it: later ones", "delay(0); layer(70, 1); ship(0, 100, 90); days(7); "
            + "foretold() = 3; days(1); foretold() = 21; days(1); foretold() = NONE");
        due.says(21, "the latest DAY among these, not the one that came last", "layer(5000, 1); ship(0, 900, 90); delay(4); "
            + "days(1); delay(1); days(1); foretold() = 13; delay(60); days(1); foretold() = 13; days(1); letter(0, 0) = 840; "
            + "foretold() = 13");
        due.says(21, "that letter tells these, too, though theirs have not come", "layer(61, 1); ship(0, 900, 90); delay(60); "
            + "days(1); delay(0); days(1); letter(0, 1) = NONE; letter(1, 1) = 1; foretold() = 28");
        due.says(21, "it is of the letter's DAY, not of TODAY", "layer(5000, 1); ship(0, 900, 90); delay(3); days(3); "
            + "foretold() = 14; days(1); foretold() = 13");
        due.says(21, "on DAY 200 of DAY 199", "delay(0); layer(5000, 1); 9 * days(20); days(19); ship(0, 900, 90); days(1); "
            + "foretold() = 98");
    }

    private static void foretoldRounds() {
        String one = "delay(0); layer(5000, 1); ship(0, ";
        due.says(21, "rounded up: nothing is 0", one + "60, 90); days(1); foretold() = 0");
        due.says(21, "rounded up: 1 by 60", one + "61, 90); days(1); foretold() = 1");
        due.says(21, "rounded up: 59 by 60", one + "119, 90); days(1); foretold() = 1");
        due.says(21, "rounded up: 60 by 60", one + "120, 90); days(1); foretold() = 1");
        due.says(21, "rounded up: 61 by 60", one + "121, 90); days(1); foretold() = 2");
        due.says(21, "rounded up: the largest, 8999 times 7 by 1", "10 * ship(0, 900, 90); days(6); delay(0); layer(1, 1); "
            + "days(1); letter(6, 0) = 8999; letter(6, 1) = 1; foretold() = 62993");
        due.says(21, "QUEUE times how many these are, by their DUG together: rounded once", "delay(0); layer(5000, 1); "
            + "ship(0, 61, 90); days(2); ship(0, 62, 90); days(1); foretold() = 1; letter(2, 0) = 2");
    }

    private static void count() {
        due.says(22, "BAD: no such number", "count(MIN) = BAD; count(-1) = BAD; count(0) = 0; count(6) = 0; count(7) = BAD; "
            + "count(8) = BAD; count(MAX) = BAD");
        due.says(22, "0 TODAY: 0 .. 200", "count(0) = 0; days(1); count(0) = 1; days(19); 8 * days(20); days(19); "
            + "count(0) = 199; days(1); count(0) = 200; days(1) = STATE; count(0) = 200");
        due.says(22, "1 SHIPS: none, ten", "count(1) = 0; ship(0, 1, 1); count(1) = 1; 9 * ship(0, 1, 1); count(1) = 10; "
            + "ship(0, 1, 1) = FULL; count(1) = 10");
        due.says(22, "2 LAYERS: none, six", "count(2) = 0; layer(1, 1); count(2) = 1; 5 * layer(1, 1); count(2) = 6; "
            + "layer(1, 1) = FULL; count(2) = 6");
        due.says(22, "3 SHIPS that are LOADED: none, all", "layer(10, 1); 10 * ship(0, 1, 90); count(3) = 0; days(1); "
            + "count(3) = 10; days(20); count(3) = 10");
        due.says(22, "3 SHIPS that are LOADED: one ton is missing", "layer(9, 1); 10 * ship(0, 1, 90); days(1); "
            + "count(3) = 9; layer(1, 1); days(1); count(3) = 10");
        due.says(22, "4 tons dug ever: none, all that ten SHIPS can want", "layer(5000, 1); layer(5000, 1); count(4) = 0; "
            + "10 * ship(0, 900, 90); days(1); count(4) = 240; 9 * days(20); count(4) = 9000; days(19); count(4) = 9000; "
            + "left(1) = 1000");
        due.says(22, "4 tons dug ever: all that there are", "layer(61, 1); ship(0, 900, 90); days(1); count(4) = 60; days(1); "
            + "count(4) = 61; days(1); count(4) = 61");
        due.says(22, "4 tons dug ever: on the last DAY", "layer(61, 1); 9 * days(20); days(19); ship(0, 900, 90); days(1); "
            + "count(4) = 60");
        due.says(22, "5 bytes of THE DRAFT: none, thirty", "count(5) = 0; type(120, 1); count(5) = 1; 3 * type(120, 8); "
            + "type(120, 5); count(5) = 30; type(120, 1) = FULL; count(5) = 30; clear(); count(5) = 0");
        due.says(22, "6 SHIPS that are DRY now: none, all", "10 * ship(0, 1, 1); count(6) = 0; days(1); count(6) = 10; "
            + "boat(9, 1); count(6) = 9; days(1); count(6) = 10");
        due.says(22, "6 SHIPS that are DRY now: 1 of WATER is not", "ship(0, 1, 2); days(1); count(6) = 0; days(1); "
            + "count(6) = 1");
        due.says(22, "6 not LOADED", "layer(1, 1); ship(0, 1, 2); days(1); about(0, 4) = 1; days(5); about(0, 4) = 1; "
            + "count(6) = 0; count(3) = 1");
    }

    private static void trace() {
        due.says(23, "0 at first", "trace() = 0; trace() = 0");
        due.says(23, "TRADER (1)", "ship(0, 1, 1); turn(0); trace() = 1; turn(0); trace() = 2");
        due.says(23, "MAIL (10) and up", "ship(1, 1, 1); turn(0); trace() = 11; turn(0); trace() = 22");
        due.says(23, "HELD (100) and up, on both sides of its 9th DAY", "ship(2, 1, 1); turn(0); trace() = 111; days(8); "
            + "turn(0); trace() = 222; days(1); turn(0); trace() = 333");
        due.says(23, "a refused turn() asks none", "turn(0) = BAD; trace() = 0; ship(2, 1, 1); turn(1) = BAD; "
            + "turn(-1) = BAD; turn(MIN) = BAD; turn(MAX) = BAD; trace() = 0");
        due.says(23, "as often as turn() asks: no other call does", "layer(9, 9); ship(0, 9, 9); ship(1, 9, 9); "
            + "ship(2, 9, 9); days(20); about(2, 0); count(0); shared(2, 1); letter(0, 0); foretold(); trace() = 0");
        due.says(23, "up to the 512th call", "ship(2, 1, 1); 510 * turn(0); trace() = 56610");
    }
}
