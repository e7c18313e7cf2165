/** Promises 1 to 12: the rock. */
public final class RockTest {
    private static final int MIN = Integer.MIN_VALUE, MAX = Integer.MAX_VALUE;
    private static final Due due = new Due();

    public static void main(String[] args) {
        newObject();
        layer();
        left();
        swell();
        ship();
        turn();
        days();
        daysByTurns();
        daysBySwell();
        daysWithLittleLeft();
        about();
        cargo();
        loaded();
        boat();
        sample();
        allThatCanBe();
        due.end();
    }

    private static void newObject() {
        due.promise(1, "all that can be asked of it");
        RockRoad road = new RockRoad();
        for (int what = 0; what <= 6; what++) {
            due.is("new: count(" + what + ")", road.count(what), 0);
        }
        due.is("new: trace()", road.trace(), 0);
        due.is("new: clear()", road.clear(), 0);
        due.is("new: foretold()", road.foretold(), RockRoad.NONE);
        due.is("new: left(0)", road.left(0), RockRoad.BAD);
        due.is("new: about(0, 0)", road.about(0, 0), RockRoad.BAD);
        due.is("new: letter(0, 0)", road.letter(0, 0), RockRoad.NONE);
        due.is("new: loaded(0, 0)", road.loaded(0, 0), -2);
        due.is("new: swell(0, 0)", road.swell(0, 0), 0);
        due.is("new: swell(200, 0)", road.swell(200, 0), 0);
        due.is("new: delay(0)", road.delay(0), 20);
        RockRoad other = new RockRoad();
        other.layer(5, 5);
        due.is("one object does not change another", road.count(2), 0);
    }

    private static void layer() {
        due.promise(2, "LAYERS come one below the other");
        RockRoad road = new RockRoad();
        int[][] bad = {{0, 1}, {-1, 1}, {5001, 1}, {MIN, 1}, {MAX, 1}, {1, 0}, {1, -1}, {1, 101}, {1, MIN}, {1, MAX}};
        for (int[] b : bad) {
            due.is("layer(" + b[0] + ", " + b[1] + ")", road.layer(b[0], b[1]), RockRoad.BAD);
        }
        due.is("no layer by then", road.count(2), 0);
        due.is("layer(1, 1)", road.layer(1, 1), 0);
        due.is("layer(5000, 100)", road.layer(5000, 100), 1);
        for (int i = 2; i < 6; i++) {
            due.is("layer " + i, road.layer(10 + i, i), i);
        }
        due.is("a seventh layer", road.layer(1, 1), RockRoad.FULL);
        due.is("a seventh layer that is wrong", road.layer(0, 1), RockRoad.BAD);
        due.is("layers", road.count(2), 6);
        due.is("left(1)", road.left(1), 5000);
        due.is("left(5)", road.left(5), 15);
    }

    private static void left() {
        due.promise(3, "the top is dug first");
        RockRoad road = new RockRoad();
        road.layer(70, 3);
        road.layer(70, 4);
        due.is("left(-1)", road.left(-1), RockRoad.BAD);
        due.is("left(2)", road.left(2), RockRoad.BAD);
        due.is("left(MIN)", road.left(MIN), RockRoad.BAD);
        due.is("left(MAX)", road.left(MAX), RockRoad.BAD);
        road.ship(0, 100, 90);
        road.days(1);
        due.is("the top layer is dug first", road.left(0), 10);
        due.is("the lower layer is whole", road.left(1), 70);
        road.days(1);
        due.is("the top layer is done", road.left(0), 0);
        due.is("the lower layer gives the rest", road.left(1), 40);
    }

    private static void swell() {
        due.promise(4, "told, and told again");
        RockRoad road = new RockRoad();
        due.is("swell(-1, 1)", road.swell(-1, 1), RockRoad.BAD);
        due.is("swell(201, 1)", road.swell(201, 1), RockRoad.BAD);
        due.is("swell(MAX, 1)", road.swell(MAX, 1), RockRoad.BAD);
        due.is("swell(5, -1)", road.swell(5, -1), RockRoad.BAD);
        due.is("swell(5, 10)", road.swell(5, 10), RockRoad.BAD);
        due.is("swell(5, 9)", road.swell(5, 9), 0);
        due.is("swell(5, 0)", road.swell(5, 0), 9);
        due.is("swell(5, 4)", road.swell(5, 4), 0);
        due.is("swell(200, 7)", road.swell(200, 7), 0);
        road.days(5);
        due.is("the swell of a day that is gone", road.swell(4, 1), RockRoad.BAD);
        due.is("the swell of today", road.swell(5, 2), 4);
        Due.letGo(road, 195);
        due.is("the swell of day 199 on day 200", road.swell(199, 1), RockRoad.BAD);
        due.is("the swell of day 200 on it", road.swell(200, 3), 7);
        due.is("the swell of day 200 again", road.swell(200, 3), 3);
    }

    private static void ship() {
        due.promise(5, "SHIPS arrive");
        RockRoad road = new RockRoad();
        int[][] bad = {{-1, 1, 1}, {3, 1, 1}, {MIN, 1, 1}, {MAX, 1, 1}, {0, 0, 1}, {0, 901, 1}, {0, -1, 1},
            {0, 1, 0}, {0, 1, 91}, {0, 1, -1}, {0, MAX, 1}, {0, 1, MAX}};
        for (int[] b : bad) {
            due.is("ship(" + b[0] + ", " + b[1] + ", " + b[2] + ")", road.ship(b[0], b[1], b[2]), RockRoad.BAD);
        }
        due.is("no ship by then", road.count(1), 0);
        due.is("ship(0, 1, 1)", road.ship(0, 1, 1), 0);
        road.days(3);
        due.is("ship(2, 900, 90)", road.ship(2, 900, 90), 1);
        due.is("it arrives today", road.about(1, 1), 3);
        for (int what = 0; what <= 5; what++) {
            due.is("without charter: term " + what, road.term(1, what), 0);
        }
        for (int i = 2; i < 10; i++) {
            due.is("ship " + i, road.ship(i % 3, 5, 5), i);
        }
        due.is("an eleventh ship", road.ship(0, 1, 1), RockRoad.FULL);
        due.is("an eleventh ship that is wrong", road.ship(0, 1, 91), RockRoad.BAD);
        due.is("ships", road.count(1), 10);
    }

    private static void turn() {
        due.promise(6, "of each KIND");
        RockRoad road = new RockRoad();
        due.is("turn(0) of none", road.turn(0), RockRoad.BAD);
        road.days(7);
        road.ship(0, 5, 90);
        road.ship(1, 5, 90);
        road.ship(2, 5, 90);
        due.is("turn(-1)", road.turn(-1), RockRoad.BAD);
        due.is("turn(3)", road.turn(3), RockRoad.BAD);
        due.is("turn(MAX)", road.turn(MAX), RockRoad.BAD);
        due.is("refused turns leave no trace", road.trace(), 0);
        due.is("a trader's turn", road.turn(0), 70);
        due.is("its trace", road.trace(), 1);
        due.is("a mail's turn", road.turn(1), 71 - 500);
        due.is("its trace, too", road.trace(), 12);
        due.is("a held one's turn", road.turn(2), 72 - 500 + 5000);
        due.is("its trace, too", road.trace(), 123);
        road.days(8);
        due.is("a held one's turn, 8 days behind", road.turn(2), 72 - 500 + 5000);
        road.days(1);
        due.is("a held one's turn, 9 days behind", road.turn(2), 72 - 500);
        due.is("both ways of it leave the same trace", road.trace(), 345);
        due.is("a trader's turn stays", road.turn(0), 70);
        due.is("a mail's turn stays", road.turn(1), 71 - 500);
        due.is("days leave no trace", road.trace(), 357);
    }

    private static void days() {
        due.promise(7, "up to the last one");
        RockRoad road = new RockRoad();
        int[] bad = {0, -1, 21, MIN, MAX};
        for (int n : bad) {
            due.is("days(" + n + ")", road.days(n), RockRoad.BAD);
        }
        due.is("today", road.count(0), 0);
        due.is("days(1)", road.days(1), 1);
        due.is("days(20)", road.days(20), 21);
        Due.letGo(road, 160);
        due.is("days(20) up to 201", road.days(20), RockRoad.STATE);
        due.is("today stays", road.count(0), 181);
        due.is("days(19) up to 200", road.days(19), 200);
        due.is("days(1) above 200", road.days(1), RockRoad.STATE);
        due.is("days(21) above 200", road.days(21), RockRoad.BAD);
    }

    private static void daysByTurns() {
        due.promise(7, "SHIPS load by TURNS");
        RockRoad road = new RockRoad();
        road.layer(5000, 1);
        road.ship(2, 900, 90);
        road.ship(0, 900, 90);
        road.ship(0, 900, 90);
        road.ship(1, 100, 90);
        road.days(1);
        tons(road, "mail and the first trader at the chutes, the held one last", 0, 15, 60, 15, 60);
        road.days(2);
        tons(road, "a ship that is loaded frees the chute for the next one", 2, 15, 60, 60, 0);
        due.is("the mail was loaded on day 1", road.about(3, 5), 1);
        Due.letGo(road, 7);
        tons(road, "held no more on day 9: first of all", 9, 60, 60, 15, 0);
        due.is("it was held up to day 8", road.loaded(0, 8), 15);

        RockRoad dry = new RockRoad();
        dry.layer(5000, 1);
        dry.ship(0, 900, 2);
        dry.ship(0, 900, 90);
        dry.ship(0, 900, 90);
        dry.ship(0, 900, 90);
        dry.days(2);
        tons(dry, "before it is dry", 0, 60, 60, 15, 15);
        tons(dry, "one that is dry frees the chute for the next one", 1, -1, 60, 60, 15);
    }

    private static void daysBySwell() {
        due.promise(7, "SHIPS load as THE SWELL lets them");
        RockRoad road = new RockRoad();
        road.layer(5000, 1);
        for (int i = 0; i < 3; i++) {
            road.ship(0, 900, 90);
        }
        int[] swells = {4, 5, 7, 8, 9, 0};
        for (int day = 0; day < swells.length; day++) {
            road.swell(day, swells[day]);
        }
        road.days(6);
        tons(road, "swell 4", 0, 60, 60, 15);
        tons(road, "swell 5", 1, 15, 15, 15);
        tons(road, "swell 7", 2, 15, 15, 15);
        tons(road, "swell 8", 3, 0, 0, 0);
        tons(road, "swell 9", 4, 0, 0, 0);
        tons(road, "swell 0", 5, 60, 60, 15);
    }

    private static void daysWithLittleLeft() {
        due.promise(7, "what LAYERS have at most");
        RockRoad road = new RockRoad();
        road.layer(70, 1);
        road.layer(8, 2);
        road.ship(0, 50, 90);
        road.ship(0, 61, 90);
        road.ship(0, 5, 90);
        road.days(1);
        tons(road, "what each wants and what is there, one behind the other", 0, 50, 28, 0);
        due.is("tons dug", road.count(4), 78);
        due.is("the first is loaded", road.about(0, 5), 0);
        due.is("the second is not", road.about(1, 5), RockRoad.NONE);
        road.layer(40, 3);
        road.days(1);
        tons(road, "a layer that comes later", 1, 0, 33, 5);
        due.is("a new layer's rest", road.left(2), 2);
        due.is("tons dug by then", road.count(4), 116);
        due.is("ships loaded", road.count(3), 3);
    }

    private static void tons(RockRoad road, String what, int day, int... tons) {
        for (int ship = 0; ship < tons.length; ship++) {
            due.is(what + ": loaded(" + ship + ", " + day + ")", road.loaded(ship, day), tons[ship]);
        }
    }

    private static void about() {
        due.promise(8, "all of it on some DAYS");
        RockRoad road = new RockRoad();
        road.layer(30, 7);
        road.layer(100, 3);
        road.days(2);
        road.ship(0, 1, 1);
        road.ship(1, 75, 40);
        facts(road, "on arrival", 1, 1, 2, 75, 0, 40, RockRoad.NONE, 0);
        road.days(1);
        facts(road, "a day later", 1, 1, 2, 15, 60, 39, RockRoad.NONE, 30 * 7 + 30 * 3);
        road.days(1);
        facts(road, "loaded", 1, 1, 2, 0, 75, 38, 3, 30 * 7 + 45 * 3);
        road.days(5);
        facts(road, "its water stays then", 1, 1, 2, 0, 75, 38, 3, 30 * 7 + 45 * 3);
        facts(road, "a dry one", 0, 0, 2, 1, 0, 0, RockRoad.NONE, 0);
        due.is("about(-1, 0)", road.about(-1, 0), RockRoad.BAD);
        due.is("about(2, 0)", road.about(2, 0), RockRoad.BAD);
        due.is("about(MAX, 0)", road.about(MAX, 0), RockRoad.BAD);
        due.is("about(0, -1)", road.about(0, -1), RockRoad.BAD);
        due.is("about(0, 7)", road.about(0, 7), RockRoad.BAD);
        due.is("about(0, MIN)", road.about(0, MIN), RockRoad.BAD);
    }

    private static void facts(RockRoad road, String when, int ship, int... facts) {
        for (int what = 0; what < facts.length; what++) {
            due.is(when + ": about(" + ship + ", " + what + ")", road.about(ship, what), facts[what]);
        }
    }

    private static void cargo() {
        due.promise(9, "two SHIPS, three LAYERS");
        RockRoad road = new RockRoad();
        road.layer(100, 1);
        road.layer(5, 1);
        road.layer(100, 1);
        road.ship(0, 100, 90);
        road.ship(0, 100, 90);
        road.days(1);
        due.is("cargo(0, 0)", road.cargo(0, 0), 60);
        due.is("cargo(0, 1)", road.cargo(0, 1), 0);
        due.is("cargo(1, 0)", road.cargo(1, 0), 40);
        due.is("cargo(1, 1)", road.cargo(1, 1), 5);
        due.is("cargo(1, 2)", road.cargo(1, 2), 15);
        due.is("cargo(2, 0)", road.cargo(2, 0), RockRoad.BAD);
        due.is("cargo(-1, 0)", road.cargo(-1, 0), RockRoad.BAD);
        due.is("cargo(0, 3)", road.cargo(0, 3), RockRoad.BAD);
        due.is("cargo(0, -1)", road.cargo(0, -1), RockRoad.BAD);
        due.is("cargo(0, MAX)", road.cargo(0, MAX), RockRoad.BAD);
        due.is("cargo(MIN, MIN)", road.cargo(MIN, MIN), RockRoad.BAD);
    }

    private static void loaded() {
        due.promise(10, "ahead of, on and behind its DAYS");
        RockRoad road = new RockRoad();
        road.layer(500, 1);
        road.days(2);
        road.ship(0, 61, 90);
        road.ship(0, 10, 1);
        due.is("on the day of its arrival", road.loaded(0, 2), -2);
        road.days(4);
        due.is("ahead of its arrival", road.loaded(0, 1), 0);
        due.is("on its first day", road.loaded(0, 2), 60);
        due.is("on its last day", road.loaded(0, 3), 1);
        due.is("behind it was loaded", road.loaded(0, 4), 0);
        due.is("a dry one ahead of its arrival", road.loaded(1, 0), 0);
        due.is("a dry one", road.loaded(1, 2), -1);
        due.is("a dry one later", road.loaded(1, 5), -1);
        due.is("today", road.loaded(0, 6), -2);
        due.is("loaded(0, -1)", road.loaded(0, -1), -2);
        due.is("loaded(0, MAX)", road.loaded(0, MAX), -2);
        due.is("loaded(2, 0)", road.loaded(2, 0), -2);
        due.is("loaded(-1, 0)", road.loaded(-1, 0), -2);
        Due.letGo(road, 194);
        due.is("loaded(1, 199) on day 200", road.loaded(1, 199), -1);
        due.is("loaded(1, 200) on day 200", road.loaded(1, 200), -2);
    }

    private static void boat() {
        due.promise(11, "one that is DRY, one that is LOADED");
        RockRoad road = new RockRoad();
        road.layer(500, 1);
        road.ship(0, 30, 1);
        road.ship(0, 30, 50);
        road.days(1);
        due.is("one is dry", road.count(6), 1);
        due.is("boat(0, 0)", road.boat(0, 0), RockRoad.BAD);
        due.is("boat(0, -1)", road.boat(0, -1), RockRoad.BAD);
        due.is("boat(0, 91)", road.boat(0, 91), RockRoad.BAD);
        due.is("boat(0, MAX)", road.boat(0, MAX), RockRoad.BAD);
        due.is("boat(2, 1)", road.boat(2, 1), RockRoad.BAD);
        due.is("boat(-1, 1)", road.boat(-1, 1), RockRoad.BAD);
        due.is("a boat to one that is loaded", road.boat(1, 1), RockRoad.STATE);
        due.is("a wrong boat to one that is loaded", road.boat(1, 91), RockRoad.BAD);
        due.is("its water stays", road.about(1, 4), 49);
        due.is("boat(0, 1)", road.boat(0, 1), 1);
        due.is("none is dry now", road.count(6), 0);
        due.is("boat(0, 88)", road.boat(0, 88), 89);
        due.is("boat(0, 2)", road.boat(0, 2), 90);
        due.is("boat(0, 90)", road.boat(0, 90), 90);
        due.is("the day gone stays dry", road.loaded(0, 0), -1);
        road.days(1);
        due.is("it loads again", road.loaded(0, 1), 30);
        due.is("its water then", road.about(0, 4), 89);

        RockRoad one = new RockRoad();
        one.ship(0, 5, 1);
        one.days(3);
        due.is("water is 0 at least", one.about(0, 4), 0);
        one.boat(0, 1);
        one.days(1);
        due.is("water for one day is gone on that day", one.loaded(0, 3), -1);
    }

    private static void sample() {
        due.promise(12, "three LAYERS");
        RockRoad road = new RockRoad();
        road.layer(7, 100);
        road.layer(4, 10);
        road.layer(900, 3);
        road.ship(0, 17, 90);
        due.is("sample without tons", road.sample(0, 1), RockRoad.NONE);
        road.days(1);
        due.is("every ton", road.sample(0, 1), (7 * 100 + 4 * 10 + 6 * 3) / 17);
        due.is("every second", road.sample(0, 2), (3 * 100 + 2 * 10 + 3 * 3) / 8);
        due.is("every fourth", road.sample(0, 4), (100 + 10 + 3 + 3) / 4);
        due.is("every seventh: the last of the first layer", road.sample(0, 7), (100 + 3) / 2);
        due.is("every eighth", road.sample(0, 8), (10 + 3) / 2);
        due.is("every ninth", road.sample(0, 9), 10);
        due.is("sample(0, 0)", road.sample(0, 0), RockRoad.BAD);
        due.is("sample(0, 10)", road.sample(0, 10), RockRoad.BAD);
        due.is("sample(0, MIN)", road.sample(0, MIN), RockRoad.BAD);
        due.is("sample(1, 1)", road.sample(1, 1), RockRoad.BAD);
        due.is("sample(-1, 1)", road.sample(-1, 1), RockRoad.BAD);
        road.ship(0, 3, 90);
        road.days(1);
        due.is("the k-th is there", road.sample(1, 3), 3);
        due.is("no k-th ton", road.sample(1, 4), RockRoad.NONE);
    }

    /** All layers, all ships and all days: no row is too short. */
    private static void allThatCanBe() {
        due.promise(7, "all LAYERS, SHIPS and DAYS");
        RockRoad road = new RockRoad();
        for (int i = 0; i < 6; i++) {
            road.layer(20, 10 * (i + 1));
        }
        for (int i = 0; i < 10; i++) {
            road.ship(0, i == 0 ? 60 : 900, 90);
        }
        road.days(1);
        due.is("three layers in the first ship", road.about(0, 6), 20 * (10 + 20 + 30));
        due.is("three in the second", road.about(1, 6), 20 * (40 + 50 + 60));
        due.is("its last layer", road.cargo(1, 5), 20);
        due.is("its sample", road.sample(1, 1), 50);
        due.is("none for the last ship", road.loaded(9, 0), 0);
        due.is("about(10, 0)", road.about(10, 0), RockRoad.BAD);
        due.is("turn(10)", road.turn(10), RockRoad.BAD);
        due.is("cargo(0, 6)", road.cargo(0, 6), RockRoad.BAD);
        due.is("left(6)", road.left(6), RockRoad.BAD);
        Due.letGo(road, 199);
        due.is("tons dug on day 200", road.count(4), 120);
        due.is("ships that are dry on day 200", road.count(6), 9);
        due.is("a boat on day 200", road.boat(9, 90), 90);
        due.is("days used by day 200", road.owed(9, 0), 200);
        due.is("on none of them lighters were shut", road.shared(9, 1) + road.shared(9, 2), 200);
    }
}
