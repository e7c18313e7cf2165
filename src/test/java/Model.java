import java.util.ArrayList;
import java.util.List;
import java.util.regex.Matcher;
import java.util.regex.Pattern;

/** A second program of the same promises, as plain as can be: it leads every single ton. */
final class Model {
    private static final int BAD = -1, STATE = -2, FULL = -3, NONE = -9;
    private static final Pattern WHOLE = Pattern.compile("([ldb]0*[0-9]{1,3}|[xhw])+", Pattern.DOTALL);

    final int[] swells = new int[201];
    final List<Vessel> ships = new ArrayList<>();
    final List<int[]> layers = new ArrayList<>();
    final List<int[]> letters = new ArrayList<>();
    String draft = "";
    int today = 0;
    int delay = 20;
    long trace = 0;

    int layer(int tons, int worth) {
        if (tons < 1 || tons > 5000 || worth < 1 || worth > 100) { return BAD; }
        if (layers.size() == 6) { return FULL; }
        layers.add(new int[] {tons, worth});
        return layers.size() - 1;
    }

    int left(int layer) {
        return layer < 0 || layer >= layers.size() ? BAD : layers.get(layer)[0];
    }

    int swell(int day, int v) {
        if (day < today || day > 200 || v < 0 || v > 9) { return BAD; }
        int was = swells[day];
        swells[day] = v;
        return was;
    }

    int ship(int kind, int wants, int water) {
        if (kind < 0 || kind > 2 || wants < 1 || wants > 900 || water < 1 || water > 90) { return BAD; }
        if (ships.size() == 10) { return FULL; }
        Vessel vessel = new Vessel();
        vessel.number = ships.size();
        vessel.kind = kind;
        vessel.arrival = today;
        vessel.wants = wants;
        vessel.water = water;
        ships.add(vessel);
        return vessel.number;
    }

    boolean no(int ship) {
        return ship < 0 || ship >= ships.size();
    }

    int body(int kind, Vessel vessel, boolean traced) {
        if (kind == 0) {
            trace += traced ? 1 : 0;
            return vessel.arrival * 10 + vessel.number;
        }
        if (kind == 1) {
            trace += traced ? 10 : 0;
            return body(0, vessel, traced) - 500;
        }
        trace += traced ? 100 : 0;
        int up = body(1, vessel, traced);
        return today >= vessel.arrival + 9 ? up : up + 5000;
    }

    int turn(int ship) {
        return no(ship) ? BAD : body(ships.get(ship).kind, ships.get(ship), true);
    }

    int days(int n) {
        if (n < 1 || n > 20) { return BAD; }
        if (today + n > 200) { return STATE; }
        for (int i = 0; i < n; i++) { oneDay(); }
        return today;
    }

    void oneDay() {
        List<Vessel> able = new ArrayList<>();
        for (Vessel vessel : ships) {
            if (vessel.isLoaded()) { continue; }
            if (vessel.water > 0) { vessel.water--; }
            if (vessel.water == 0) {
                vessel.dryDays.add(today);
            } else {
                able.add(vessel);
            }
        }
        able.sort((p, q) -> {
            int byTurn = Integer.compare(body(p.kind, p, false), body(q.kind, q, false));
            return byTurn != 0 ? byTurn : Integer.compare(p.number, q.number);
        });
        int dug = 0;
        for (int i = 0; i < able.size(); i++) {
            int most = swells[today] <= 4 && i < 2 ? 60 : swells[today] <= 7 ? 15 : 0;
            while (most > 0 && !able.get(i).isLoaded() && oneTon(able.get(i))) {
                most--;
                dug++;
            }
        }
        int queue = 0;
        for (Vessel vessel : ships) {
            if (vessel.isLoaded() && vessel.loadedOn == NONE) { vessel.loadedOn = today; }
            queue += vessel.isLoaded() ? 0 : vessel.wants - vessel.tons.size();
        }
        letters.add(new int[] {queue, dug, today + delay});
        today++;
    }

    boolean oneTon(Vessel vessel) {
        for (int i = 0; i < layers.size(); i++) {
            if (layers.get(i)[0] > 0) {
                layers.get(i)[0]--;
                vessel.tons.add(i);
                vessel.tonDays.add(today);
                return true;
            }
        }
        return false;
    }

    int about(int ship, int what) {
        if (no(ship) || what < 0 || what > 6) { return BAD; }
        Vessel v = ships.get(ship);
        int worth = 0;
        for (int ton : v.tons) { worth += layers.get(ton)[1]; }
        return new int[] {v.kind, v.arrival, v.wants - v.tons.size(), v.tons.size(), v.water, v.loadedOn, worth}[what];
    }

    int cargo(int ship, int layer) {
        if (no(ship) || layer < 0 || layer >= layers.size()) { return BAD; }
        int found = 0;
        for (int ton : ships.get(ship).tons) { found += ton == layer ? 1 : 0; }
        return found;
    }

    int loaded(int ship, int day) {
        if (no(ship) || day < 0 || day >= today) { return -2; }
        return ships.get(ship).dryDays.contains(day) ? -1 : ships.get(ship).tonsOn(day);
    }

    int boat(int ship, int n) {
        if (no(ship) || n < 1 || n > 90) { return BAD; }
        if (ships.get(ship).isLoaded()) { return STATE; }
        ships.get(ship).water = Math.min(90, ships.get(ship).water + n);
        return ships.get(ship).water;
    }

    int sample(int ship, int k) {
        if (no(ship) || k < 1 || k > 9) { return BAD; }
        int sum = 0;
        int found = 0;
        for (int i = k; i <= ships.get(ship).tons.size(); i += k) {
            sum += layers.get(ships.get(ship).tons.get(i - 1))[1];
            found++;
        }
        return found == 0 ? NONE : sum / found;
    }

    int type(long v, int n) {
        if (n < 1 || n > 8) { return BAD; }
        if (draft.length() + n > 30) { return FULL; }
        String text = "";
        for (long rest = v; text.length() < n; rest >>= 8) { text = (char) (rest & 255) + text; }
        draft += text;
        return draft.length();
    }

    int clear() {
        int had = draft.length();
        draft = "";
        return had;
    }

    int charter(int ship) {
        if (no(ship)) { return BAD; }
        if (draft.isEmpty()) { return STATE; }
        for (int place = 0; place < draft.length(); place++) {
            Matcher matcher = WHOLE.matcher(draft.substring(0, place + 1));
            if (!matcher.matches() && !matcher.hitEnd()) { return -100 - place; }
        }
        if (!WHOLE.matcher(draft).matches()) { return -100 - draft.length(); }
        ships.get(ship).charter = draft;
        draft = "";
        return 1;
    }

    int term(int ship, int what) {
        if (no(ship) || what < 0 || what > 5) { return BAD; }
        return termOf(ships.get(ship).charter, what);
    }

    int termOf(String charter, int what) {
        int at = charter.lastIndexOf("ldbxhw".charAt(what));
        if (at < 0) { return 0; }
        if (what > 2) { return 1; }
        int end = at + 1;
        while (end < charter.length() && Character.isDigit(charter.charAt(end))) { end++; }
        return Integer.parseInt(charter.substring(at + 1, end));
    }

    List<Integer> countedDays(Vessel v) {
        List<Integer> found = new ArrayList<>();
        for (int day = v.arrival; day < today && (v.loadedOn == NONE || day <= v.loadedOn); day++) {
            boolean left = termOf(v.charter, 3) == 1 && swells[day] > 4
                || termOf(v.charter, 4) == 1 && (day + 1) % 7 == 0
                || termOf(v.charter, 5) == 1 && v.dryDays.contains(day);
            if (!left) { found.add(day); }
        }
        return found;
    }

    int owed(int ship, int what) {
        if (no(ship) || what < 0 || what > 1) { return -1000000; }
        Vessel v = ships.get(ship);
        int used = countedDays(v).size();
        int lay = termOf(v.charter, 0);
        if (what == 0) { return used; }
        if (used > lay) { return (used - lay) * termOf(v.charter, 1); }
        return v.isLoaded() && used < lay ? -(lay - used) * termOf(v.charter, 2) : 0;
    }

    int shared(int ship, int what) {
        if (no(ship) || what < 0 || what > 2) { return BAD; }
        Vessel v = ships.get(ship);
        List<Integer> counted = countedDays(v);
        int[] shares = new int[3];
        for (int i = termOf(v.charter, 0); i < counted.size(); i++) {
            int day = counted.get(i);
            boolean idle = v.tonsOn(day) == 0 && !v.dryDays.contains(day);
            shares[swells[day] > 7 ? 0 : idle ? 1 : 2]++;
        }
        return shares[what];
    }

    int delay(int v) {
        if (v < 0 || v > 60) { return BAD; }
        int was = delay;
        delay = v;
        return was;
    }

    int letter(int day, int what) {
        if (day < 0 || day > 200 || what < 0 || what > 2) { return BAD; }
        return day < letters.size() && letters.get(day)[2] <= today ? letters.get(day)[what] : NONE;
    }

    int foretold() {
        int latest = -1;
        for (int day = 0; day < letters.size(); day++) {
            if (letters.get(day)[2] <= today) { latest = day; }
        }
        if (latest < 0) { return NONE; }
        int many = 0;
        int dug = 0;
        for (int day = latest; day >= 0 && day > latest - 7; day--) {
            many++;
            dug += letters.get(day)[1];
        }
        if (dug == 0) { return NONE; }
        int wait = 0;
        while (wait * dug < letters.get(latest)[0] * many) { wait++; }
        return wait;
    }

    int count(int what) {
        int done = 0;
        int dry = 0;
        int dug = 0;
        for (Vessel v : ships) {
            done += v.isLoaded() ? 1 : 0;
            dry += v.water == 0 && !v.isLoaded() ? 1 : 0;
            dug += v.tons.size();
        }
        int[] counts = {today, ships.size(), layers.size(), done, dug, draft.length(), dry};
        return what < 0 || what > 6 ? BAD : counts[what];
    }

    private static final class Vessel {
        int number;
        int kind;
        int arrival;
        int wants;
        int water;
        int loadedOn = NONE;
        String charter = "";
        /** The layer of each ton, as they came, and the day on which each came. */
        final List<Integer> tons = new ArrayList<>();
        final List<Integer> tonDays = new ArrayList<>();
        final List<Integer> dryDays = new ArrayList<>();

        boolean isLoaded() {
            return tons.size() == wants;
        }

        int tonsOn(int day) {
            int found = 0;
            for (int d : tonDays) {
                found += d == day ? 1 : 0;
            }
            return found;
        }
    }
}
