/** Promises 13 to 18: charters. */
public final class CharterTest {
    private static final int MIN = Integer.MIN_VALUE, MAX = Integer.MAX_VALUE;
    private static final int BAD_OWED = -1000000;
    private static final Due due = new Due();

    public static void main(String[] args) {
        type();
        clear();
        charter();
        texts();
        faults();
        term();
        used();
        owed();
        shared();
        due.end();
    }

    private static void type() {
        due.promise(13, "bytes come");
        RockRoad road = new RockRoad();
        int[] bad = {0, -1, 9, MIN, MAX};
        for (int n : bad) {
            due.is("type(120, " + n + ")", road.type(120L, n), RockRoad.BAD);
        }
        road.ship(0, 1, 1);
        due.is("the lowest bytes, the highest of them first", road.type(Due.packed("zzzl12x"), 4), 4);
        due.is("it is a charter", road.charter(0), 1);
        due.is("its number", road.term(0, 0), 12);
        due.is("all eight bytes", road.type(Due.packed("l1d2b3xh"), 8), 8);
        road.type(Due.packed("w"), 1);
        due.is("they are a charter", road.charter(0), 1);
        due.is("the highest byte came first", road.term(0, 0), 1);
        due.is("bytes above 127", road.type(-1L, 8), 8);
        due.is("they are no items", road.charter(0), -100);
        due.is("up to 30", road.type(-1L, 8) + road.type(-1L, 8) + road.type(-1L, 6), 16 + 24 + 30);
        due.is("more than 30", road.type(120L, 1), RockRoad.FULL);
        due.is("more than 30, of a wrong number", road.type(120L, 9), RockRoad.BAD);
        due.is("30 it has", road.count(5), 30);
        road.clear();
        Due.type(road, "xxxxxxxxxxxxxxxxxxxxxxxxx");
        due.is("25 and 6", road.type(120L, 6), RockRoad.FULL);
        due.is("none of them came", road.count(5), 25);
        due.is("25 and 5", road.type(Due.packed("xxxxx"), 5), 30);
        due.is("thirty bytes are a charter", road.charter(0), 1);
    }

    private static void clear() {
        due.promise(14, "bytes go");
        RockRoad road = new RockRoad();
        road.ship(0, 1, 1);
        due.is("an empty draft", road.clear(), 0);
        Due.type(road, "l5");
        due.is("two bytes", road.clear(), 2);
        due.is("empty then", road.count(5), 0);
        due.is("no charter of it", road.charter(0), RockRoad.STATE);
        Due.type(road, "d7");
        due.is("a new text", road.charter(0), 1);
        due.is("nothing of the old one", road.term(0, 0), 0);
    }

    private static void charter() {
        due.promise(15, "one in place of another");
        RockRoad road = new RockRoad();
        due.is("no ship, an empty draft", road.charter(0), RockRoad.BAD);
        Due.type(road, "q");
        due.is("no ship, a fault", road.charter(0), RockRoad.BAD);
        road.clear();
        road.ship(0, 1, 1);
        due.is("an empty draft", road.charter(0), RockRoad.STATE);
        due.is("charter(-1)", road.charter(-1), RockRoad.BAD);
        due.is("charter(1)", road.charter(1), RockRoad.BAD);
        due.is("charter(MAX)", road.charter(MAX), RockRoad.BAD);
        Due.type(road, "l3d4b5xhw");
        due.is("a charter", road.charter(0), 1);
        due.is("the draft is empty then", road.count(5), 0);
        terms(road, "all of them", 3, 4, 5, 1, 1, 1);
        Due.type(road, "d9l8q");
        due.is("a fault", road.charter(0), -104);
        due.is("the draft stays", road.count(5), 5);
        terms(road, "the charter stays", 3, 4, 5, 1, 1, 1);
        road.clear();
        Due.type(road, "d9");
        due.is("another one", road.charter(0), 1);
        terms(road, "in place of the first", 0, 9, 0, 0, 0, 0);
    }

    private static void texts() {
        due.promise(15, "texts that can stand");
        read("l0", 0, 0, 0, 0, 0, 0);
        read("l999d999b999", 999, 999, 999, 0, 0, 0);
        read("l7l8", 8, 0, 0, 0, 0, 0);
        read("l70xl8", 8, 0, 0, 1, 0, 0);
        read("b1d2l3", 3, 2, 1, 0, 0, 0);
        read("xxh", 0, 0, 0, 1, 1, 0);
        read("w", 0, 0, 0, 0, 0, 1);
        read("h", 0, 0, 0, 0, 1, 0);
        read("l0000000000000000000000000999x", 999, 0, 0, 1, 0, 0);
        read("d007", 0, 7, 0, 0, 0, 0);
    }

    private static void read(String text, int... terms) {
        RockRoad road = new RockRoad();
        road.ship(0, 1, 1);
        Due.type(road, text);
        due.is(text, road.charter(0), 1);
        terms(road, text, terms);
    }

    private static void terms(RockRoad road, String text, int... terms) {
        for (int what = 0; what < terms.length; what++) {
            due.is(text + ": term(0, " + what + ")", road.term(0, what), terms[what]);
        }
    }

    private static void faults() {
        due.promise(15, "texts that cannot stand");
        fault("l", 1);
        fault("xd", 2);
        fault("l5b", 3);
        fault("lx", 1);
        fault("ll5", 1);
        fault("5", 0);
        fault("x5", 1);
        fault("l5x5", 3);
        fault("l1000", 4);
        fault("l9990", 4);
        fault("l00010000", 7);
        fault("d5y", 2);
        fault("L5", 0);
        fault("X", 0);
        fault(" x", 0);
        fault("l 5", 1);
        fault("l-5", 1);
        fault("l5 ", 2);
        fault("l/", 1);
        fault("l:", 1);
        fault("l5:", 2);
        fault("\0", 0);
        fault("x\u00ff", 1);
        fault("\u00ec5", 0);
        fault("xxxxxxxxxxxxxxxxxxxxxxxxxxxxxl", 30);
        fault("xxxxxxxxxxxxxxxxxxxxxxxxxxxxxq", 29);
    }

    private static void fault(String text, int place) {
        RockRoad road = new RockRoad();
        road.ship(0, 1, 1);
        Due.type(road, text);
        due.is(text, road.charter(0), -100 - place);
        due.is(text + ": it stays", road.count(5), text.length());
        terms(road, text, 0, 0, 0, 0, 0, 0);
    }

    private static void term() {
        due.promise(16, "of each SHIP its own");
        RockRoad road = new RockRoad();
        due.is("term of no ship", road.term(0, 0), RockRoad.BAD);
        road.ship(0, 1, 1);
        due.is("term(-1, 0)", road.term(-1, 0), RockRoad.BAD);
        due.is("term(1, 0)", road.term(1, 0), RockRoad.BAD);
        due.is("term(0, -1)", road.term(0, -1), RockRoad.BAD);
        due.is("term(0, 6)", road.term(0, 6), RockRoad.BAD);
        due.is("term(0, MIN)", road.term(0, MIN), RockRoad.BAD);
        due.is("term(MAX, MAX)", road.term(MAX, MAX), RockRoad.BAD);
        road.ship(0, 1, 1);
        Due.type(road, "l5");
        road.charter(1);
        due.is("another ship's charter", road.term(0, 0), 0);
        due.is("its own", road.term(1, 0), 5);
    }

    private static void used() {
        due.promise(17, "USED with each of x, h, w");
        RockRoad road = new RockRoad();
        road.days(3);
        road.ship(0, 100, 8);
        due.is("on its arrival", road.owed(0, 0), 0);
        road.swell(4, 5);
        road.swell(5, 4);
        road.swell(6, 9);
        road.swell(12, 5);
        road.days(1);
        due.is("a day later", road.owed(0, 0), 1);
        Due.letGo(road, 10);
        // Days 3 .. 13; chutes shut on 4, 6, 12; days 6 and 13; dry on 10 .. 13.
        due.is("without charter all count", road.owed(0, 0), 11);
        usedWith(road, "x", 8);
        usedWith(road, "h", 9);
        usedWith(road, "w", 7);
        usedWith(road, "xh", 7);
        usedWith(road, "xw", 5);
        usedWith(road, "hw", 6);
        usedWith(road, "xhw", 5);
        usedWith(road, "l5", 11);

        RockRoad done = new RockRoad();
        done.layer(500, 1);
        done.ship(0, 61, 90);
        done.days(10);
        due.is("up to the day on which it was loaded", done.owed(0, 0), 2);
    }

    private static void usedWith(RockRoad road, String text, int days) {
        Due.type(road, text);
        road.charter(0);
        due.is("used with " + text, road.owed(0, 0), days);
    }

    private static void owed() {
        due.promise(17, "OWED ahead of and behind LOADED");
        RockRoad road = new RockRoad();
        due.is("owed of no ship", road.owed(0, 0), BAD_OWED);
        road.layer(5000, 1);
        road.ship(0, 300, 90);
        due.is("owed(-1, 0)", road.owed(-1, 0), BAD_OWED);
        due.is("owed(1, 0)", road.owed(1, 0), BAD_OWED);
        due.is("owed(0, -1)", road.owed(0, -1), BAD_OWED);
        due.is("owed(0, 2)", road.owed(0, 2), BAD_OWED);
        due.is("owed(0, MAX)", road.owed(0, MAX), BAD_OWED);
        road.days(4);
        owedWith(road, "l4d100b10", 0);
        owedWith(road, "l3d100b10", 100);
        owedWith(road, "d100", 400);
        owedWith(road, "l9d100b10", 0);
        road.days(1);
        due.is("it is loaded", road.about(0, 5), 4);
        owedWith(road, "l9d100b10", -40);
        owedWith(road, "l5d100b10", 0);
        owedWith(road, "l4d100b10", 100);
        owedWith(road, "l9d100", 0);
        owedWith(road, "l999b999", -994 * 999);
        due.is("owed without charter", new RockRoad().owed(0, 1), BAD_OWED);
    }

    private static void owedWith(RockRoad road, String text, int due1) {
        Due.type(road, text);
        road.charter(0);
        due.is("owed with " + text, road.owed(0, 1), due1);
    }

    private static void shared() {
        due.promise(18, "RAIN, TURN and WORK");
        RockRoad road = new RockRoad();
        due.is("shared of no ship", road.shared(0, 0), RockRoad.BAD);
        road.ship(0, 900, 6);
        road.layer(100, 1);
        road.swell(0, 5);
        road.swell(1, 8);
        road.swell(3, 7);
        road.swell(6, 9);
        Due.letGo(road, 9);
        // Loaded by days: 15, shut, 60, 15, 10, dry, dry and shut, dry, dry.
        sharedWith(road, "d1", 2, 0, 7);
        sharedWith(road, "l1", 2, 0, 6);
        sharedWith(road, "l2", 1, 0, 6);
        sharedWith(road, "l9", 0, 0, 0);
        sharedWith(road, "l2w", 0, 0, 3);
        sharedWith(road, "l2x", 0, 0, 3);
        sharedWith(road, "l6h", 0, 0, 2);
        road.boat(0, 90);
        Due.letGo(road, 3);
        sharedWith(road, "l8", 0, 3, 1);
        road.layer(5000, 1);
        Due.letGo(road, 20);
        due.is("it is loaded on day 25", road.about(0, 5), 25);
        // Of days 0 .. 25 all but 0, 1, 3, 6 count; nothing was left to dig on 9, 10, 11.
        sharedWith(road, "x", 0, 3, 19);
        sharedWith(road, "l999", 0, 0, 0);
        due.is("shared(-1, 0)", road.shared(-1, 0), RockRoad.BAD);
        due.is("shared(1, 0)", road.shared(1, 0), RockRoad.BAD);
        due.is("shared(0, -1)", road.shared(0, -1), RockRoad.BAD);
        due.is("shared(0, 3)", road.shared(0, 3), RockRoad.BAD);
        due.is("shared(0, MIN)", road.shared(0, MIN), RockRoad.BAD);
    }

    private static void sharedWith(RockRoad road, String text, int... shares) {
        Due.type(road, text);
        road.charter(0);
        for (int what = 0; what < shares.length; what++) {
            due.is("shared with " + text + ", " + what, road.shared(0, what), shares[what]);
        }
    }
}
