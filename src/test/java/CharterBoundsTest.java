/** Promises 13 to 18 at their bounds: each sentence that names one, on an object of its own. */
public final class CharterBoundsTest {
    private static final Due due = new Due();
    /** Up to the last DAY: ten calls. */
    private static final String ALL_DAYS = "10 * days(20); ";
    private static final String X29 = "xxxxxxxxxxxxxxxxxxxxxxxxxxxxx";

    public static void main(String[] args) {
        type();
        typeFull();
        clear();
        charter();
        charterNumbers();
        charterBytes();
        charterPlaces();
        term();
        used();
        owed();
        shared();
        due.covers(13, 18);
        due.end();
    }

    private static void type() {
        due.says(13, "The lowest n (1 .. 8) bytes", "type(120, MIN) = BAD; type(120, -8) = BAD; type(120, -1) = BAD; "
            + "type(120, 0) = BAD; type(120, 9) = BAD; type(120, 16) = BAD; type(120, MAX) = BAD; count(5) = 0; "
            + "type(120, 1) = 1; type(120, 2) = 3; type(120, 7) = 10; type(120, 8) = 18; count(5) = 18");
        due.says(13, "the smallest and the largest v", "ship(0, 1, 1); type(LOW, 8) = 8; charter(0) = -100; clear() = 8; "
            + "type(HIGH, 8) = 8; charter(0) = -100; clear() = 8; type(-1, 8) = 8; charter(0) = -100; clear() = 8; "
            + "type(0, 8) = 8; charter(0) = -100; clear() = 8; type(LOW, 1) = 1; type(HIGH, 1) = 2; type(-1, 7) = 9");
        due.says(13, "v of a wrong n", "type(LOW, 0) = BAD; type(HIGH, 9) = BAD; type(LOW, MIN) = BAD; "
            + "type(HIGH, MAX) = BAD; count(5) = 0");
        due.says(13, "the lowest 1 byte", "ship(0, 1, 1); type(0xFFFFFFFFFFFFFF78, 1) = 1; charter(0) = 1; term(0, 3) = 1");
        due.says(13, "the lowest 2 bytes", "ship(0, 1, 1); type(0xFFFFFFFFFFFF6C35, 2) = 2; charter(0) = 1; "
            + "term(0, 0) = 5");
        due.says(13, "the lowest 7 bytes", "ship(0, 1, 1); type(0x806C316432623378, 7) = 7; charter(0) = 1; "
            + "term(0, 0) = 1; term(0, 1) = 2; term(0, 2) = 3; term(0, 3) = 1");
        due.says(13, "the lowest 8 bytes", "ship(0, 1, 1); type('l1d2b3xh', 8) = 8; charter(0) = 1; term(0, 0) = 1; "
            + "term(0, 1) = 2; term(0, 2) = 3; term(0, 3) = 1; term(0, 4) = 1");
        due.says(13, "the highest of them first", "ship(0, 1, 1); type('l12', 3); charter(0) = 1; term(0, 0) = 12; "
            + "type('5l', 2); charter(0) = -100; clear(); type('xq', 2); charter(0) = -101; clear(); "
            + "type('xxxxxxxq', 8); charter(0) = -107; clear(); type('qxxxxxxx', 8); charter(0) = -100");
        due.says(13, "come to THE DRAFT, behind what it has", "ship(0, 1, 1); type('l1', 2) = 2; type('2', 1) = 3; "
            + "type('3d', 2) = 5; type('4', 1) = 6; charter(0) = 1; term(0, 0) = 123; term(0, 1) = 4");
        due.says(13, "bytes above 127 are bytes as they are", "ship(0, 1, 1); type(0xF8, 1) = 1; charter(0) = -100; clear(); "
            + "type(0x6CB5, 2); charter(0) = -101; clear(); type(0x78EC35, 3); charter(0) = -101");
    }

    private static void typeFull() {
        due.says(13, "FULL: more than 30: 29 and 1", "ship(0, 1, 1); write('" + X29 + "'); count(5) = 29; "
            + "type('x', 1) = 30; charter(0) = 1");
        due.says(13, "FULL: more than 30: 29 and 2", "ship(0, 1, 1); write('" + X29 + "'); type('hh', 2) = FULL; "
            + "count(5) = 29; type('w', 1) = 30; charter(0) = 1; term(0, 4) = 0; term(0, 5) = 1");
        due.says(13, "FULL: more than 30: 30 and 1", "write('" + X29 + "h'); count(5) = 30; type(120, 1) = FULL; "
            + "type(120, 8) = FULL; type(LOW, 1) = FULL; count(5) = 30; clear() = 30");
        due.says(13, "FULL: more than 30: 22 and 8", "type('x', 6) = 6; 2 * type('x', 8); count(5) = 22; type('x', 8) = 30");
        due.says(13, "FULL: more than 30: 23 and 8, 7", "type('x', 7) = 7; 2 * type('x', 8); count(5) = 23; "
            + "type('x', 8) = FULL; count(5) = 23; type('x', 7) = 30; type('x', 7) = FULL; count(5) = 30");
        due.says(13, "BAD ahead of FULL", "write('" + X29 + "x'); type(120, 0) = BAD; type(120, -1) = BAD; "
            + "type(120, 9) = BAD; type(120, MIN) = BAD; type(120, MAX) = BAD; type(120, 1) = FULL; count(5) = 30");
    }

    private static void clear() {
        due.says(14, "how many bytes it had: none", "clear() = 0; clear() = 0; count(5) = 0");
        due.says(14, "how many bytes it had: one", "type(120, 1); clear() = 1; count(5) = 0; clear() = 0");
        due.says(14, "how many bytes it had: thirty", "write('" + X29 + "x'); clear() = 30; count(5) = 0; clear() = 0; "
            + "3 * type('x', 8); type('x', 6) = 30; type('x', 1) = FULL; clear() = 30");
        due.says(14, "THE DRAFT is empty", "ship(0, 1, 1); type('l9', 2); clear() = 2; charter(0) = STATE; type('x', 1) = 1; "
            + "charter(0) = 1; term(0, 0) = 0; clear() = 0");
        due.says(14, "of a DRAFT that a refused call left", "ship(0, 1, 1); type('q', 1); charter(0) = -100; "
            + "charter(1) = BAD; type('q', 9) = BAD; clear() = 1; clear() = 0");
        due.says(14, "a CHARTER stays", "ship(0, 1, 1); type('l9', 2); charter(0) = 1; clear() = 0; term(0, 0) = 9");
    }

    private static void charter() {
        due.says(15, "BAD: there is no such SHIP", "type('x', 1); charter(0) = BAD; charter(MIN) = BAD; charter(MAX) = BAD; "
            + "ship(0, 1, 1); charter(-1) = BAD; charter(1) = BAD; count(5) = 1; charter(0) = 1; 9 * ship(0, 1, 1); "
            + "type('h', 1); charter(10) = BAD; charter(9) = 1; term(9, 4) = 1; term(0, 4) = 0");
        due.says(15, "STATE: THE DRAFT is empty", "ship(0, 1, 1); charter(0) = STATE; type('x', 1); clear(); "
            + "charter(0) = STATE; type('x', 1); charter(0) = 1; charter(0) = STATE; term(0, 3) = 1");
        due.says(15, "BAD ahead of STATE", "charter(0) = BAD; charter(-1) = BAD; ship(0, 1, 1); charter(1) = BAD; "
            + "charter(-1) = BAD; charter(MIN) = BAD; charter(MAX) = BAD; charter(0) = STATE");
        due.says(15, "BAD ahead of a FAULT", "type('q', 1); charter(0) = BAD; ship(0, 1, 1); charter(1) = BAD; "
            + "charter(-1) = BAD; charter(0) = -100; count(5) = 1");
        due.says(15, "a text (1 .. 30 bytes): 1", "ship(0, 1, 1); type('w', 1); charter(0) = 1; term(0, 5) = 1");
        due.says(15, "a text (1 .. 30 bytes): 30", "ship(0, 1, 1); write('l999d999b999xhwl998d997b996xxx'); count(5) = 30; "
            + "charter(0) = 1; term(0, 0) = 998; term(0, 1) = 997; term(0, 2) = 996; term(0, 5) = 1; count(5) = 0");
        due.says(15, "in place of another one", "ship(0, 1, 1); write('l9d8b7xhw'); charter(0) = 1; write('d0'); "
            + "charter(0) = 1; term(0, 0) = 0; term(0, 1) = 0; term(0, 2) = 0; term(0, 3) = 0; term(0, 4) = 0; term(0, 5) = 0");
        due.says(15, "and is empty then", "ship(0, 1, 1); type('l9', 2); charter(0) = 1; count(5) = 0; clear() = 0; "
            + "type('5', 1) = 1; charter(0) = -100");
        due.says(15, "a FAULT (it stays as it is)", "ship(0, 1, 1); write('l9d8b7xhw'); charter(0) = 1; write('b1l2xq'); "
            + "charter(0) = -105; charter(0) = -105; count(5) = 6; term(0, 0) = 9; term(0, 1) = 8; term(0, 2) = 7; "
            + "term(0, 3) = 1; term(0, 4) = 1; term(0, 5) = 1; clear() = 6");
        due.says(15, "a FAULT (it stays as it is): a digit comes later", "ship(0, 1, 1); type('l', 1); charter(0) = -101; "
            + "type('5', 1) = 2; charter(0) = 1; term(0, 0) = 5");
        due.says(15, "of a SHIP that is LOADED, on DAY 200", "layer(1, 1); ship(0, 1, 90); " + ALL_DAYS
            + "write('l3b5'); charter(0) = 1; term(0, 0) = 3; owed(0, 1) = -10");
        due.says(15, "Of several of one letter the last one", "ship(0, 1, 1); write('l1l2d3l4d5b6b7'); charter(0) = 1; "
            + "term(0, 0) = 4; term(0, 1) = 5; term(0, 2) = 7; write('l999l0'); charter(0) = 1; term(0, 0) = 0");
        due.says(15, "Of several of one letter the last one: x, h, w", "ship(0, 1, 1); write('xxhhxw'); charter(0) = 1; "
            + "term(0, 3) = 1; term(0, 4) = 1; term(0, 5) = 1; term(0, 0) = 0");
    }

    private static void charterNumbers() {
        String[] letters = {"l", "d", "b"};
        for (int what = 0; what < letters.length; what++) {
            String in = "ship(0, 1, 1); write('" + letters[what];
            String is = "'); charter(0) = 1; term(0, " + what + ") = ";
            due.says(15, "a number 0 .. 999: 0", in + "0" + is + "0");
            due.says(15, "a number 0 .. 999: 1", in + "1" + is + "1");
            due.says(15, "a number 0 .. 999: 9", in + "9" + is + "9");
            due.says(15, "a number 0 .. 999: 10", in + "10" + is + "10");
            due.says(15, "a number 0 .. 999: 99", in + "99" + is + "99");
            due.says(15, "a number 0 .. 999: 100", in + "100" + is + "100");
            due.says(15, "a number 0 .. 999: 998", in + "998" + is + "998");
            due.says(15, "a number 0 .. 999: 999", in + "999" + is + "999");
            due.says(15, "a number 0 .. 999: 0999", in + "0999" + is + "999");
            due.says(15, "a number 0 .. 999: all digits 0", in + "00000000000000000000000000000" + is + "0");
            due.says(15, "a number above 999: at the digit by which it is: 1000", in + "1000'); charter(0) = -104");
            due.says(15, "a number above 999: at the digit by which it is: 9999", in + "9999'); charter(0) = -104");
            due.says(15, "a number above 999: at the digit by which it is: 10000", in + "10000'); charter(0) = -104");
            due.says(15, "a number above 999: at the digit by which it is: 01000", in + "01000'); charter(0) = -105");
            due.says(15, "a number above 999: at the digit by which it is: 4294967297, 1 as an int",
                in + "4294967297'); charter(0) = -104");
            due.says(15, "a number above 999, behind one that is not", in + "999" + letters[what] + "1000'); "
                + "charter(0) = -108; term(0, " + what + ") = 0");
            due.says(15, "the letter alone is no ITEM: at the end", in + "'); charter(0) = -101; count(5) = 1");
            due.says(15, "the letter alone is no ITEM: ahead of another one", in + "x'); charter(0) = -101; count(5) = 2");
            due.says(15, "the letter alone is no ITEM: twice", in + letters[what] + "5'); charter(0) = -101");
        }
    }

    /** Each byte 0 .. 255 behind each kind of place. */
    private static void charterBytes() {
        due.promise(15, "A FAULT is the place of the first byte that cannot stand there");
        for (int next = 0; next < 256; next++) {
            boolean digit = next >= '0' && next <= '9';
            boolean item = next == 'x' || next == 'h' || next == 'w';
            boolean open = next == 'l' || next == 'd' || next == 'b';
            behind("", next, item ? 1 : open ? -101 : -100);
            behind("x", next, item ? 1 : open ? -102 : -101);
            behind("d", next, digit ? 1 : -101);
            behind("hb", next, digit ? 1 : -102);
            behind("l5", next, item || digit ? 1 : open ? -103 : -102);
            behind("b99", next, item || digit ? 1 : open ? -104 : -103);
            behind("d100", next, item ? 1 : open ? -105 : -104);
            behind("l5w", next, item ? 1 : open ? -104 : -103);
        }
    }

    private static void behind(String text, int next, int answer) {
        RockRoad road = new RockRoad();
        road.ship(0, 1, 1);
        Due.type(road, text);
        road.type(next, 1);
        due.is("charter(0) of '" + text + "' and byte " + next, road.charter(0), answer);
        due.is("count(5) then", road.count(5), answer == 1 ? 0 : text.length() + 1);
    }

    private static void charterPlaces() {
        for (int place = 0; place < 30; place++) {
            due.says(15, "-100 less the place of its FAULT, each place of the longest text", "ship(0, 1, 1); write('"
                + X29.substring(0, place) + "q" + X29.substring(place) + "'); charter(0) = " + (-100 - place));
            due.says(15, "the text's length, if a digit is missing at its end, each length", "ship(0, 1, 1); write('"
                + X29.substring(0, place) + "b'); charter(0) = " + (-101 - place) + "; count(5) = " + (place + 1));
        }
        due.says(15, "the first byte of several", "ship(0, 1, 1); write('x1q'); charter(0) = -101; clear(); "
            + "write('lq'); charter(0) = -101; clear(); write('q5l'); charter(0) = -100; clear(); write('l1000q'); "
            + "charter(0) = -104");
    }

    private static void term() {
        due.says(16, "BAD: there is no such SHIP", "term(0, 0) = BAD; ship(0, 1, 1); term(0, 0) = 0; term(-1, 0) = BAD; "
            + "term(1, 0) = BAD; term(MIN, 0) = BAD; term(MAX, 0) = BAD; 9 * ship(0, 1, 1); term(9, 5) = 0; "
            + "term(10, 5) = BAD");
        due.says(16, "BAD: no such number of it", "ship(0, 1, 1); write('l3d4b5xhw'); charter(0); term(0, MIN) = BAD; "
            + "term(0, -1) = BAD; term(0, 0) = 3; term(0, 1) = 4; term(0, 2) = 5; term(0, 3) = 1; term(0, 4) = 1; "
            + "term(0, 5) = 1; term(0, 6) = BAD; term(0, MAX) = BAD");
        due.says(16, "both wrong", "term(0, 6) = BAD; ship(0, 1, 1); term(1, 6) = BAD; term(MIN, MAX) = BAD; "
            + "term(-1, -1) = BAD");
        due.says(16, "without: 0, none", "ship(0, 1, 1); term(0, 0) = 0; term(0, 1) = 0; term(0, 2) = 0; term(0, 3) = 0; "
            + "term(0, 4) = 0; term(0, 5) = 0");
        due.says(16, "without: 0, none: x alone", "ship(0, 1, 1); write('x'); charter(0); term(0, 0) = 0; term(0, 1) = 0; "
            + "term(0, 2) = 0; term(0, 3) = 1; term(0, 4) = 0; term(0, 5) = 0");
        due.says(16, "without: 0, none: h alone", "ship(0, 1, 1); write('h'); charter(0); term(0, 3) = 0; term(0, 4) = 1; "
            + "term(0, 5) = 0");
        due.says(16, "without: 0, none: w alone", "ship(0, 1, 1); write('w'); charter(0); term(0, 3) = 0; term(0, 4) = 0; "
            + "term(0, 5) = 1");
        due.says(16, "without: 0, none: a DRAFT is no CHARTER", "ship(0, 1, 1); write('l9xhw'); term(0, 0) = 0; "
            + "term(0, 3) = 0; term(0, 4) = 0; term(0, 5) = 0");
        due.says(16, "the largest", "ship(0, 1, 1); write('l999d999b999'); charter(0); term(0, 0) = 999; "
            + "term(0, 1) = 999; term(0, 2) = 999; " + ALL_DAYS + "term(0, 0) = 999");
    }

    private static void used() {
        due.says(17, "-1000000: BAD: there is no such SHIP", "owed(0, 0) = -1000000; ship(0, 1, 1); owed(0, 0) = 0; "
            + "owed(-1, 0) = -1000000; owed(1, 0) = -1000000; owed(MIN, 1) = -1000000; owed(MAX, 1) = -1000000; "
            + "9 * ship(0, 1, 1); owed(9, 1) = 0; owed(10, 1) = -1000000");
        due.says(17, "-1000000: BAD: no such number of it", "ship(0, 1, 1); days(2); owed(0, MIN) = -1000000; "
            + "owed(0, -1) = -1000000; owed(0, 0) = 2; owed(0, 1) = 0; owed(0, 2) = -1000000; owed(0, MAX) = -1000000");
        due.says(17, "both wrong", "owed(0, 2) = -1000000; ship(0, 1, 1); owed(1, -1) = -1000000; "
            + "owed(MAX, MIN) = -1000000");
        due.says(17, "USED: DAYS from its arrival up to the DAY ahead of TODAY", "days(3); ship(0, 1, 90); owed(0, 0) = 0; "
            + "days(1); owed(0, 0) = 1; days(1); owed(0, 0) = 2");
        due.says(17, "USED: all DAYS", "ship(0, 1, 90); 9 * days(20); days(19); owed(0, 0) = 199; days(1); "
            + "owed(0, 0) = 200; ship(0, 1, 90); owed(1, 0) = 0");
        due.says(17, "USED: up to the one on which it was LOADED", "layer(900, 1); ship(0, 60, 90); ship(0, 61, 90); "
            + "days(1); owed(0, 0) = 1; owed(1, 0) = 1; days(1); owed(0, 0) = 1; owed(1, 0) = 2; days(20); "
            + "owed(0, 0) = 1; owed(1, 0) = 2");
        due.says(17, "x: DAYS on which CHUTES are shut: above 4", "ship(0, 1, 90); write('x'); charter(0); swell(0, 0); "
            + "swell(1, 3); swell(2, 4); swell(3, 5); swell(4, 7); swell(5, 8); swell(6, 9); days(3); owed(0, 0) = 3; "
            + "days(1); owed(0, 0) = 3; days(3); owed(0, 0) = 3; days(1); owed(0, 0) = 4");
        due.says(17, "x: without it they count", "ship(0, 1, 90); write('hw'); charter(0); swell(0, 9); swell(1, 5); "
            + "days(2); owed(0, 0) = 2");
        due.says(17, "h: DAYS 6, 13, 20, .. do not count", "ship(0, 1, 90); write('h'); charter(0); days(1); "
            + "owed(0, 0) = 1; days(5); owed(0, 0) = 6; days(1); owed(0, 0) = 6; days(1); owed(0, 0) = 7; days(5); "
            + "owed(0, 0) = 12; days(1); owed(0, 0) = 12; days(1); owed(0, 0) = 13; days(5); owed(0, 0) = 18; days(1); "
            + "owed(0, 0) = 18; days(1); owed(0, 0) = 19; 8 * days(20); days(18); owed(0, 0) = 172");
        due.says(17, "h: by the DAY's number, not by its arrival: the last one is 195", "9 * days(20); days(14); "
            + "ship(0, 1, 90); write('h'); charter(0); days(1) = 195; owed(0, 0) = 1; days(1); owed(0, 0) = 1; days(1); "
            + "owed(0, 0) = 2; days(3) = 200; owed(0, 0) = 5");
        due.says(17, "h: it arrives on DAY 6", "days(6); ship(0, 1, 90); write('h'); charter(0); days(1); owed(0, 0) = 0; "
            + "days(1); owed(0, 0) = 1");
        due.says(17, "w: DAYS on which it was DRY do not count", "ship(0, 1, 2); write('w'); charter(0); days(1); "
            + "owed(0, 0) = 1; days(1); owed(0, 0) = 1; days(1); owed(0, 0) = 1; boat(0, 2); days(1); owed(0, 0) = 2; "
            + "days(1); owed(0, 0) = 2");
        due.says(17, "w: without it they count", "ship(0, 1, 1); write('xh'); charter(0); days(5); owed(0, 0) = 5");
        due.says(17, "w: a DAY without a ton is none", "ship(0, 1, 90); write('w'); charter(0); days(5); owed(0, 0) = 5");
        due.says(17, "a DAY left out for all three is left out once", "days(6); ship(0, 1, 1); write('xhw'); charter(0); "
            + "swell(6, 9); days(1); owed(0, 0) = 0; boat(0, 90); days(1); owed(0, 0) = 1");
    }

    private static void owed() {
        String open = "ship(0, 900, 90); days(5); owed(0, 0) = 5; write('";
        due.says(17, "OWED: if USED is above LAY: not LOADED, one below", open + "l6d7b3'); charter(0); owed(0, 1) = 0");
        due.says(17, "OWED: if USED is above LAY: not LOADED, as many", open + "l5d7b3'); charter(0); owed(0, 1) = 0");
        due.says(17, "OWED: if USED is above LAY: not LOADED, one above", open + "l4d7b3'); charter(0); owed(0, 1) = 7");
        due.says(17, "OWED: if USED is above LAY: no LAY", open + "d7b3'); charter(0); owed(0, 1) = 35");
        String done = "layer(300, 1); ship(0, 300, 90); days(9); about(0, 5) = 4; owed(0, 0) = 5; write('";
        due.says(17, "OWED: if it is LOADED and USED is below: one", done + "l6d7b3'); charter(0); owed(0, 1) = -3");
        due.says(17, "OWED: if it is LOADED and USED is below: as many", done + "l5d7b3'); charter(0); owed(0, 1) = 0");
        due.says(17, "OWED: if it is LOADED and USED is above", done + "l4d7b3'); charter(0); owed(0, 1) = 7");
        due.says(17, "OWED: LOADED, no BACK and no DEMURRAGE", done + "l9'); charter(0); owed(0, 1) = 0; write('l1'); "
            + "charter(0); owed(0, 1) = 0");
        due.says(17, "OWED: on the DAY on which it is LOADED, and one ahead", "layer(300, 1); ship(0, 300, 90); "
            + "write('l9b3'); charter(0); days(4); owed(0, 1) = 0; days(1); owed(0, 1) = -12; days(1); owed(0, 1) = -12");
        due.says(17, "OWED: the largest", "ship(0, 1, 90); write('d999'); charter(0); " + ALL_DAYS + "owed(0, 1) = 199800");
        due.says(17, "OWED: LAY 199, 200 and 999 of 200 DAYS", "ship(0, 1, 90); " + ALL_DAYS + "write('l199d999'); "
            + "charter(0); owed(0, 1) = 999; write('l200d999'); charter(0); owed(0, 1) = 0; write('l999d999'); charter(0); "
            + "owed(0, 1) = 0");
        due.says(17, "OWED: the least, with no DAY USED", "layer(1, 1); ship(0, 1, 90); write('l999b999x'); charter(0); "
            + "swell(0, 5); days(1); about(0, 5) = 0; owed(0, 0) = 0; owed(0, 1) = -998001");
        due.says(17, "without CHARTER nothing is OWED", "ship(0, 1, 90); days(20); owed(0, 0) = 20; owed(0, 1) = 0");
    }

    private static void shared() {
        due.says(18, "BAD: there is no such SHIP", "shared(0, 0) = BAD; ship(0, 1, 1); shared(0, 0) = 0; "
            + "shared(-1, 0) = BAD; shared(1, 0) = BAD; shared(MIN, 0) = BAD; shared(MAX, 0) = BAD; 9 * ship(0, 1, 1); "
            + "shared(9, 2) = 0; shared(10, 2) = BAD");
        due.says(18, "BAD: no such number of it", "ship(0, 1, 90); days(3); shared(0, MIN) = BAD; shared(0, -1) = BAD; "
            + "shared(0, 0) = 0; shared(0, 1) = 3; shared(0, 2) = 0; shared(0, 3) = BAD; shared(0, MAX) = BAD");
        due.says(18, "both wrong", "shared(0, 3) = BAD; ship(0, 1, 1); shared(1, -1) = BAD; shared(MIN, MAX) = BAD");
        String five = "ship(0, 900, 90); days(5); write('";
        due.says(18, "those behind the first LAY ones: none", five + "l5'); charter(0); shared(0, 1) = 0; write('l6'); "
            + "charter(0); shared(0, 1) = 0; write('l999'); charter(0); shared(0, 1) = 0");
        due.says(18, "those behind the first LAY ones: one", five + "l4'); charter(0); shared(0, 0) = 0; "
            + "shared(0, 1) = 1; shared(0, 2) = 0");
        due.says(18, "those behind the first LAY ones: all", five + "l0'); charter(0); shared(0, 1) = 5; write('x'); "
            + "charter(0); shared(0, 1) = 5");
        due.says(18, "on its arrival none", "ship(0, 1, 1); shared(0, 0) = 0; shared(0, 1) = 0; shared(0, 2) = 0");
        due.says(18, "RAIN on which LIGHTERS were shut: above 7", "ship(0, 1, 90); swell(0, 7); swell(1, 8); swell(2, 9); "
            + "swell(3, 4); swell(4, 5); days(5); shared(0, 0) = 2; shared(0, 1) = 3; shared(0, 2) = 0");
        due.says(18, "RAIN, though it was DRY", "ship(0, 1, 1); swell(0, 8); swell(1, 7); days(2); shared(0, 0) = 1; "
            + "shared(0, 1) = 0; shared(0, 2) = 1");
        due.says(18, "TURN: the SHIP loaded nothing; WORK: one ton", "layer(1, 1); ship(0, 9, 90); days(2); "
            + "loaded(0, 0) = 1; shared(0, 0) = 0; shared(0, 1) = 1; shared(0, 2) = 1");
        due.says(18, "TURN: not DRY; WORK all others", "ship(0, 9, 2); days(4); shared(0, 0) = 0; shared(0, 1) = 1; "
            + "shared(0, 2) = 3");
        due.says(18, "of DAYS that count: x leaves RAIN out", "ship(0, 1, 90); write('x'); charter(0); swell(0, 8); "
            + "swell(1, 5); days(3); shared(0, 0) = 0; shared(0, 1) = 1; shared(0, 2) = 0");
        due.says(18, "of DAYS that count: LAY is of these alone", "ship(0, 1, 90); write('l1x'); charter(0); swell(0, 8); "
            + "days(1); shared(0, 1) = 0; days(1); shared(0, 1) = 0; days(1); shared(0, 1) = 1");
        due.says(18, "of DAYS that count: h", "ship(0, 1, 90); write('l5h'); charter(0); swell(6, 9); swell(7, 9); days(6); "
            + "shared(0, 1) = 1; days(1); shared(0, 0) = 0; shared(0, 1) = 1; days(1); shared(0, 0) = 1; shared(0, 1) = 1");
        due.says(18, "of DAYS that count: w", "ship(0, 1, 2); write('w'); charter(0); days(5); shared(0, 1) = 1; "
            + "shared(0, 2) = 0");
        due.says(18, "up to the DAY on which it was LOADED", "layer(61, 1); ship(0, 61, 90); swell(2, 9); days(1); "
            + "shared(0, 2) = 1; days(1); shared(0, 2) = 2; days(9); shared(0, 0) = 0; shared(0, 1) = 0; shared(0, 2) = 2");
        due.says(18, "in order: the first LAY ones are left out, not the last", "layer(900, 1); ship(0, 900, 90); "
            + "swell(0, 9); swell(1, 9); days(4); write('l1'); charter(0); shared(0, 0) = 1; shared(0, 2) = 2; write('l2'); "
            + "charter(0); shared(0, 0) = 0; shared(0, 2) = 2; write('l3'); charter(0); shared(0, 0) = 0; shared(0, 2) = 1");
        due.says(18, "all DAYS", "ship(0, 1, 1); swell(199, 8); " + ALL_DAYS + "shared(0, 0) = 1; shared(0, 1) = 0; "
            + "shared(0, 2) = 199; write('l199'); charter(0); shared(0, 0) = 1; shared(0, 2) = 0");
    }
}
