import java.util.ArrayList;
import java.util.List;

/** Long runs of mixed calls, right and wrong ones, each answer against a second program that leads every single ton. */
public final class ModelTest {
    private static final int RUNS = 2500;
    /** A round makes two calls at most: together they stay within the 512 for which an object is used. */
    private static final int ROUNDS = 256;
    private static final int[] ODD = {Integer.MIN_VALUE, Integer.MAX_VALUE, -100, -9, -2, -1, 1000, 256};

    private static final Due due = new Due();
    private static long seed = 20261116L;

    public static void main(String[] args) {
        for (int run = 0; run < RUNS && !due.anyWrong(); run++) {
            oneRun(run);
        }
        due.end();
    }

    /** A row of numbers that is the same on each run of the test. */
    private static int below(int bound) {
        seed = seed * 6364136223846793005L + 1442695040888963407L;
        return (int) Long.remainderUnsigned(seed >>> 24, bound);
    }

    private static int from(int least, int most) {
        return least + below(most - least + 1);
    }

    /** Mostly a number as told, at times one beside it, at times one far off. */
    private static int about(int least, int most) {
        switch (below(24)) {
            case 0: return least - 1;
            case 1: return most + 1;
            case 2: return ODD[below(ODD.length)];
            case 3: return least;
            case 4: return most;
            default: return most < least ? least : from(least, most);
        }
    }

    private static void oneRun(int run) {
        RockRoad road = new RockRoad();
        Model model = new Model();
        List<String> told = new ArrayList<>();
        int pace = from(1, 20);
        for (int round = 0; round < ROUNDS && !due.anyWrong(); round++) {
            oneRound(road, model, told, pace);
        }
        if (due.anyWrong()) {
            System.out.println("run " + run + ": " + String.join("; ", told));
        }
    }

    private static void oneRound(RockRoad road, Model model, List<String> told, int pace) {
        int ships = model.ships.size() - 1;
        int a;
        int b;
        int c;
        switch (below(30)) {
            case 0:
                if (below(3) > 0) { break; }
                a = below(3) == 0 ? about(1, 5000) : about(1, 150);
                b = about(1, 100);
                ask(road, model, told, "layer", a, b);
                break;
            case 1: case 2:
                a = about(model.today, Math.min(200, model.today + 25));
                b = about(0, 9);
                ask(road, model, told, "swell", a, b);
                break;
            case 3:
                if (below(2) > 0) { break; }
                a = about(0, 2);
                b = about(1, below(2) == 0 ? 900 : 120);
                c = about(1, below(2) == 0 ? 90 : 12);
                ask(road, model, told, "ship", a, b, c);
                break;
            case 4: case 5:
                a = about(0, ships);
                ask(road, model, told, "turn", a);
                break;
            case 6: case 7:
                a = about(1, pace);
                ask(road, model, told, "days", a);
                break;
            case 8: case 9: case 10:
                a = about(0, ships);
                b = about(0, 6);
                ask(road, model, told, "about", a, b);
                break;
            case 11:
                a = about(0, ships);
                b = about(0, model.layers.size() - 1);
                ask(road, model, told, "cargo", a, b);
                ask(road, model, told, "left", b);
                break;
            case 12: case 13:
                a = about(0, ships);
                b = about(0, model.today - 1);
                ask(road, model, told, "loaded", a, b);
                break;
            case 14:
                a = about(0, ships);
                b = about(1, below(2) == 0 ? 90 : 6);
                ask(road, model, told, "boat", a, b);
                break;
            case 15:
                a = about(0, ships);
                b = about(1, 9);
                ask(road, model, told, "sample", a, b);
                break;
            case 16: case 17:
                typeSome(road, model, told);
                break;
            case 18:
                if (below(3) > 0) { break; }
                ask(road, model, told, "clear");
                break;
            case 19: case 20:
                a = about(0, ships);
                ask(road, model, told, "charter", a);
                break;
            case 21:
                a = about(0, ships);
                b = about(0, 5);
                ask(road, model, told, "term", a, b);
                break;
            case 22: case 23:
                a = about(0, ships);
                b = about(0, 1);
                ask(road, model, told, "owed", a, b);
                break;
            case 24:
                a = about(0, ships);
                b = about(0, 2);
                ask(road, model, told, "shared", a, b);
                break;
            case 25:
                if (below(3) > 0) { break; }
                a = about(0, below(2) == 0 ? 60 : 5);
                ask(road, model, told, "delay", a);
                break;
            case 26: case 27:
                a = below(3) == 0 ? about(0, 200) : about(0, model.today);
                b = about(0, 2);
                ask(road, model, told, "letter", a, b);
                break;
            case 28:
                ask(road, model, told, "foretold");
                break;
            default:
                a = about(0, 6);
                ask(road, model, told, "count", a);
                ask(road, model, told, "trace");
                break;
        }
    }

    private static void typeSome(RockRoad road, Model model, List<String> told) {
        String letters = below(6) == 0 ? "ldbxhw0189lL :/\0\u00ff" : "ldbxhw";
        StringBuilder text = new StringBuilder();
        int n = about(1, 8);
        while (text.length() < 8) {
            char next = letters.charAt(below(letters.length()));
            text.append(next);
            if (next == 'l' || next == 'd' || next == 'b') {
                text.append(below(next == 'l' && below(3) > 0 ? 30 : below(12) == 0 ? 2000 : 1000));
            }
        }
        // The lowest n bytes are typed: let the text's first n be these, with something else above them.
        long v = Due.packed(text.substring(0, Math.max(0, Math.min(n, 8))));
        if (n >= 1 && n < 8) {
            v |= 0x7878787878787878L << (8 * n);
        }
        ask(road, model, told, "type", v, n);
    }

    private static void ask(RockRoad road, Model model, List<String> told, String name, long... numbers) {
        Call call = new Call(name, numbers);
        due.promiseOf(name);
        long got = call.on(road);
        told.add(call + " = " + got);
        due.is(call.toString(), got, call.on(model));
    }
}
