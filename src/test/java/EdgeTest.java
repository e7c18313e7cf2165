import java.util.ArrayList;
import java.util.List;

/**
 * Every call with the numbers at and beside all its bounds and the smallest and largest ones, all of them with one
 * another, on an empty object, a full one and some between: the answer is that of the second program, and a call that
 * is refused or only asks leaves all that can be seen as it was.
 */
public final class EdgeTest {
    private static final Due due = new Due();
    private static final int MIN = Integer.MIN_VALUE, MAX = Integer.MAX_VALUE;

    private static final long[] SHIPS = {MIN, -1, 0, 1, 4, 5, 9, 10, MAX};
    private static final long[] LAYERS = {MIN, -1, 0, 1, 2, 3, 5, 6, MAX};
    private static final long[] DAYS = {MIN, -1, 0, 1, 29, 30, 31, 199, 200, 201, MAX};
    private static final long[] WHATS = {MIN, -1, 0, 1, 2, 3, 4, 5, 6, 7, MAX};
    private static final long[] BYTES = {Long.MIN_VALUE, -1, 0, 'x', Long.MAX_VALUE};

    private static final String SIX_LAYERS = "layer(5000, 100); layer(1, 1); layer(70, 9); 3 * layer(30, 40); ";
    private static final String TEN_SHIPS = "4 * ship(0, 900, 90); 3 * ship(1, 40, 2); 3 * ship(2, 300, 30); ";
    private static final String[][] STORIES = {
        {"a new object", ""},
        {"one SHIP and one LAYER", "layer(70, 3); ship(0, 61, 5); type('l', 1)"},
        {"on DAY 30: DRY, LOADED and waiting", "layer(70, 3); layer(400, 9); layer(1, 50); ship(0, 61, 5); ship(2, 900, 3); "
            + "ship(1, 20, 60); swell(2, 5); swell(4, 8); write('l2d9b3xh'); charter(0); write('d7w'); charter(1); turn(1); "
            + "days(3); delay(2); days(7); ship(2, 80, 90); swell(12, 9); days(20); ship(1, 900, 90); swell(30, 6); "
            + "swell(31, 8); swell(200, 9); turn(0); delay(9); write('l5xd')"},
        {"a full one on DAY 0", SIX_LAYERS + TEN_SHIPS + "write('l1d2b3xhwl1d2b3xhwl1d2b3xhwxxq'); delay(60); swell(0, 9)"},
        {"a full one on DAY 200", SIX_LAYERS + TEN_SHIPS + "write('l5d9b2xhw'); charter(0); write('d1w'); charter(5); "
            + "swell(3, 8); swell(5, 5); days(9); boat(4, 7); 9 * days(20); delay(1); days(11); turn(9); "
            + "write('l1d2b3xhwl1d2b3xhwl1d2b3xhwxx'); delay(60); swell(200, 7)"},
        {"all LOADED", "layer(50, 2); 5 * ship(0, 10, 9); delay(0); days(1); write('l9b9'); charter(4)"},
    };

    public static void main(String[] args) {
        List<Call> calls = edgeCalls();
        List<List<Call>> views = views();
        for (String[] story : STORIES) {
            onOneStory(story[0], Story.of(story[1]), calls, views);
        }
        due.covers(2, 23);
        due.end();
    }

    private static List<Call> edgeCalls() {
        List<Call> calls = new ArrayList<>();
        cross(calls, "layer", new long[] {MIN, -1, 0, 1, 5000, 5001, MAX}, new long[] {MIN, -1, 0, 1, 100, 101, MAX});
        cross(calls, "left", LAYERS);
        cross(calls, "swell", DAYS, new long[] {MIN, -1, 0, 9, 10, MAX});
        cross(calls, "ship", new long[] {MIN, -1, 0, 2, 3, MAX}, new long[] {MIN, 0, 1, 900, 901, MAX},
            new long[] {MIN, 0, 1, 90, 91, MAX});
        cross(calls, "turn", SHIPS);
        cross(calls, "days", new long[] {MIN, -1, 0, 1, 20, 21, MAX});
        cross(calls, "about", SHIPS, WHATS);
        cross(calls, "cargo", SHIPS, LAYERS);
        cross(calls, "loaded", SHIPS, DAYS);
        cross(calls, "boat", SHIPS, new long[] {MIN, -1, 0, 1, 90, 91, MAX});
        cross(calls, "sample", SHIPS, new long[] {MIN, -1, 0, 1, 2, 9, 10, MAX});
        cross(calls, "type", BYTES, new long[] {MIN, -1, 0, 1, 2, 7, 8, 9, MAX});
        cross(calls, "clear");
        cross(calls, "charter", SHIPS);
        cross(calls, "term", SHIPS, WHATS);
        cross(calls, "owed", SHIPS, WHATS);
        cross(calls, "shared", SHIPS, WHATS);
        cross(calls, "delay", new long[] {MIN, -1, 0, 60, 61, MAX});
        cross(calls, "letter", DAYS, WHATS);
        cross(calls, "foretold");
        cross(calls, "count", WHATS);
        cross(calls, "trace");
        return calls;
    }

    /** Adds a call with each choice of one number out of each row. */
    private static void cross(List<Call> calls, String name, long[]... rows) {
        int[] places = new int[rows.length];
        boolean more = true;
        while (more) {
            long[] numbers = new long[rows.length];
            for (int i = 0; i < rows.length; i++) {
                numbers[i] = rows[i][places[i]];
            }
            calls.add(new Call(name, numbers));
            more = next(places, rows);
        }
    }

    private static boolean next(int[] places, long[][] rows) {
        for (int i = 0; i < places.length; i++) {
            places[i]++;
            if (places[i] < rows[i].length) {
                return true;
            }
            places[i] = 0;
        }
        return false;
    }

    private static void onOneStory(String title, Story story, List<Call> calls, List<List<Call>> views) {
        long[][] before = seen(story, null, views);
        for (Call call : calls) {
            long answer = call.on(story.model());
            due.promiseOf(call.name);
            due.is(title + ": " + call, call.on(story.road()), answer);
            if (isRefused(call.name, answer) || onlyAsks(call.name)) {
                String change = firstChange(before, seen(story, call, views), views);
                due.holds(title + ": that " + call + " leaves " + change + " as it was", change.isEmpty());
            }
        }
    }

    private static boolean isRefused(String name, long answer) {
        switch (name) {
            case "turn": return answer == -1;
            case "charter": return answer < 0;
            default: return answer == -1 || answer == -2 || answer == -3;
        }
    }

    private static boolean onlyAsks(String name) {
        switch (name) {
            case "left": case "about": case "cargo": case "loaded": case "sample": case "term": case "owed":
            case "shared": case "letter": case "foretold": case "count": case "trace":
                return true;
            default:
                return false;
        }
    }

    /** All that can be seen of an object, in parts that each fit into the 512 calls behind a story. */
    private static List<List<Call>> views() {
        List<List<Call>> views = new ArrayList<>();
        List<Call> whole = new ArrayList<>();
        cross(whole, "trace");
        cross(whole, "count", upTo(6));
        cross(whole, "foretold");
        cross(whole, "left", upTo(5));
        cross(whole, "turn", upTo(9));
        cross(whole, "delay", new long[] {0});
        cross(whole, "charter", upTo(0));
        cross(whole, "term", upTo(0), upTo(5));
        cross(whole, "type", new long[] {0x6C35L}, upTo(8));
        cross(whole, "clear");
        views.add(whole);
        List<Call> ahead = new ArrayList<>();
        cross(ahead, "swell", upTo(200), upTo(0));
        views.add(ahead);
        for (int what = 0; what <= 2; what++) {
            List<Call> letters = new ArrayList<>();
            cross(letters, "letter", upTo(200), new long[] {what});
            views.add(letters);
        }
        for (int ship = 0; ship <= 9; ship++) {
            List<Call> one = new ArrayList<>();
            ofShip(one, new long[] {ship});
            cross(one, "loaded", new long[] {ship}, upTo(199));
            views.add(one);
        }
        List<Call> later = new ArrayList<>();
        later.add(new Call("days", 20));
        cross(later, "about", upTo(9), upTo(6));
        cross(later, "count", upTo(6));
        cross(later, "foretold");
        views.add(later);
        return views;
    }

    private static void ofShip(List<Call> calls, long[] ship) {
        cross(calls, "about", ship, upTo(6));
        cross(calls, "cargo", ship, upTo(5));
        cross(calls, "sample", ship, upTo(9));
        cross(calls, "term", ship, upTo(5));
        cross(calls, "owed", ship, upTo(1));
        cross(calls, "shared", ship, upTo(2));
    }

    private static long[] upTo(int last) {
        long[] row = new long[last + 1];
        for (int i = 0; i <= last; i++) {
            row[i] = i;
        }
        return row;
    }

    /** The answers of all views, each behind a story of its own and, if there is one, a call behind it. */
    private static long[][] seen(Story story, Call call, List<List<Call>> views) {
        long[][] answers = new long[views.size()][];
        for (int i = 0; i < answers.length; i++) {
            List<Call> view = views.get(i);
            if (story.size() + 1 + view.size() > 512) {
                throw new IllegalArgumentException("a story and a view have more than 512 calls");
            }
            RockRoad road = story.road();
            if (call != null) {
                call.on(road);
            }
            answers[i] = new long[view.size()];
            for (int k = 0; k < answers[i].length; k++) {
                answers[i][k] = view.get(k).on(road);
            }
        }
        return answers;
    }

    private static String firstChange(long[][] before, long[][] after, List<List<Call>> views) {
        for (int i = 0; i < before.length; i++) {
            for (int k = 0; k < before[i].length; k++) {
                if (before[i][k] != after[i][k]) {
                    return views.get(i).get(k) + " = " + before[i][k];
                }
            }
        }
        return "";
    }
}
