/** Promises 19 to 23: letters, counts and the trace. */
public final class LetterTest {
    private static final int MIN = Integer.MIN_VALUE, MAX = Integer.MAX_VALUE;
    private static final Due due = new Due();

    public static void main(String[] args) {
        delay();
        letter();
        letterAtTheEnd();
        foretold();
        foretoldOfSevenDays();
        foretoldOfTheLatest();
        count();
        trace();
        due.end();
    }

    private static void delay() {
        due.promise(19, "what it was");
        RockRoad road = new RockRoad();
        int[] bad = {-1, 61, MIN, MAX};
        for (int v : bad) {
            due.is("delay(" + v + ")", road.delay(v), RockRoad.BAD);
        }
        due.is("20 at first", road.delay(60), 20);
        due.is("delay(0)", road.delay(0), 60);
        due.is("delay(20)", road.delay(20), 0);
    }

    private static void letter() {
        due.promise(20, "letters with unlike DELAYS");
        RockRoad road = new RockRoad();
        road.layer(500, 1);
        road.ship(0, 100, 90);
        road.ship(0, 70, 1);
        road.delay(3);
        road.days(1);
        due.is("a letter that has not come", road.letter(0, 0), RockRoad.NONE);
        due.is("when it comes is not known then", road.letter(0, 2), RockRoad.NONE);
        road.delay(1);
        road.days(1);
        due.is("a later one that has come", road.letter(1, 0), 70);
        due.is("its dug", road.letter(1, 1), 40);
        due.is("its day", road.letter(1, 2), 2);
        due.is("the first one has not come", road.letter(0, 1), RockRoad.NONE);
        due.is("today's", road.letter(2, 0), RockRoad.NONE);
        road.delay(0);
        road.days(1);
        due.is("the first one comes: queue", road.letter(0, 0), 110);
        due.is("dug", road.letter(0, 1), 60);
        due.is("its day", road.letter(0, 2), 3);
        due.is("one without delay", road.letter(2, 0), 70);
        due.is("it dug nothing", road.letter(2, 1), 0);
        due.is("its day", road.letter(2, 2), 2);
        due.is("letter(-1, 0)", road.letter(-1, 0), RockRoad.BAD);
        due.is("letter(201, 0)", road.letter(201, 0), RockRoad.BAD);
        due.is("letter(MAX, 0)", road.letter(MAX, 0), RockRoad.BAD);
        due.is("letter(0, -1)", road.letter(0, -1), RockRoad.BAD);
        due.is("letter(0, 3)", road.letter(0, 3), RockRoad.BAD);
        due.is("letter(200, 3)", road.letter(200, 3), RockRoad.BAD);
        due.is("letter(199, 0)", road.letter(199, 0), RockRoad.NONE);
        due.is("letter(200, 0)", road.letter(200, 0), RockRoad.NONE);
    }

    private static void letterAtTheEnd() {
        due.promise(20, "the last DAYS");
        RockRoad road = new RockRoad();
        Due.letGo(road, 180);
        road.delay(1);
        road.days(20);
        due.is("the letter of day 199", road.letter(199, 2), 200);
        due.is("there is none of day 200", road.letter(200, 2), RockRoad.NONE);
        due.is("one that comes on day 199", road.letter(179, 2), 199);
        due.is("nothing was dug", road.foretold(), RockRoad.NONE);
    }

    private static void foretold() {
        due.promise(21, "the first DAYS");
        RockRoad road = new RockRoad();
        road.layer(100, 1);
        road.ship(0, 900, 90);
        due.is("no letter", road.foretold(), RockRoad.NONE);
        road.delay(2);
        road.days(1);
        due.is("none that came", road.foretold(), RockRoad.NONE);
        road.days(1);
        due.is("day 0: 840 by 60", road.foretold(), 14);
        road.days(1);
        due.is("day 1: 800 * 2 by 100", road.foretold(), 16);
        road.days(1);
        due.is("day 2: 800 * 3 by 100", road.foretold(), 24);

        RockRoad up = new RockRoad();
        up.layer(5000, 1);
        up.ship(0, 61, 90);
        up.delay(0);
        up.days(1);
        due.is("1 by 60, rounded up", up.foretold(), 1);
        up.days(1);
        due.is("nothing wanted", up.foretold(), 0);
        up.ship(0, 900, 90);
        up.days(1);
        due.is("840 * 3 by 121, rounded up", up.foretold(), 21);
    }

    private static void foretoldOfSevenDays() {
        due.promise(21, "seven DAYS");
        RockRoad road = new RockRoad();
        road.layer(60, 1);
        road.delay(0);
        road.ship(0, 100, 90);
        road.days(7);
        due.is("days 0 .. 6: 40 * 7 by 60", road.foretold(), 5);
        road.days(1);
        due.is("days 1 .. 7: nothing dug", road.foretold(), RockRoad.NONE);
        road.layer(15, 1);
        road.days(1);
        due.is("days 2 .. 8: 25 * 7 by 15", road.foretold(), 12);
    }

    private static void foretoldOfTheLatest() {
        due.promise(21, "the latest DAY among these");
        RockRoad road = new RockRoad();
        road.layer(5000, 1);
        road.ship(0, 900, 90);
        road.delay(4);
        road.days(1);
        road.delay(1);
        road.days(1);
        due.is("of day 1; it tells day 0, too: 780 * 2 by 120", road.foretold(), 13);
        road.delay(60);
        road.days(2);
        due.is("the letter of day 0 comes later and tells nothing new", road.foretold(), 13);
        due.is("it has come", road.letter(0, 0), 840);
    }

    private static void count() {
        due.promise(22, "all of it on some DAYS");
        RockRoad road = new RockRoad();
        road.layer(80, 1);
        road.layer(9, 1);
        road.ship(0, 50, 90);
        road.ship(1, 70, 90);
        road.ship(2, 9, 2);
        Due.type(road, "lx");
        counts(road, "at first", 0, 3, 2, 0, 0, 2, 0);
        road.days(1);
        counts(road, "after a day", 1, 3, 2, 0, 89, 2, 0);
        road.days(1);
        counts(road, "one is dry", 2, 3, 2, 0, 89, 2, 1);
        road.layer(21, 1);
        road.clear();
        road.days(2);
        counts(road, "two are loaded, the third is dry", 4, 3, 3, 1, 110, 0, 1);
        road.layer(100, 1);
        road.boat(2, 9);
        road.days(1);
        counts(road, "all are loaded", 5, 3, 4, 3, 129, 0, 0);
        int[] bad = {-1, 7, MIN, MAX};
        for (int what : bad) {
            due.is("count(" + what + ")", road.count(what), RockRoad.BAD);
        }

        RockRoad last = new RockRoad();
        last.layer(60, 1);
        last.ship(0, 60, 2);
        last.days(1);
        last.days(1);
        due.is("one that is loaded is not dry later", last.count(6), 0);
    }

    private static void counts(RockRoad road, String when, int... counts) {
        for (int what = 0; what < counts.length; what++) {
            due.is(when + ": count(" + what + ")", road.count(what), counts[what]);
        }
    }

    private static void trace() {
        due.promise(23, "turns leave it, DAYS do not");
        RockRoad road = new RockRoad();
        due.is("at first", road.trace(), 0);
        road.ship(2, 5, 5);
        due.is("a ship leaves none", road.trace(), 0);
        for (int i = 0; i < 100; i++) {
            road.turn(0);
        }
        due.is("a hundred held turns", road.trace(), 11100);
        road.days(20);
        due.is("days leave none", road.trace(), 11100);
        due.is("asking it leaves none", road.trace(), 11100);
    }
}
