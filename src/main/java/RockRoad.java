public final class RockRoad {
    public static final int BAD = -1, STATE = -2, FULL = -3, NONE = -9;

    private static final int LAST_DAY = 200;
    private static final int MOST_DAYS_AT_ONCE = 20;
    private static final int MOST_SHIPS = 10;
    private static final int MOST_LAYERS = 6;
    private static final int MOST_BYTES = 30;
    private static final int MOST_BYTES_AT_ONCE = 8;
    private static final int MOST_WANTED = 900;
    private static final int MOST_WATER = 90;
    private static final int MOST_TONS = 5000;
    private static final int MOST_WORTH = 100;
    private static final int MOST_SWELL = 9;
    private static final int MOST_DELAY = 60;
    private static final int MOST_NUMBER = 999;
    private static final int MOST_SAMPLE_STEP = 9;

    private static final int CHUTES_BEAR = 4;
    private static final int LIGHTERS_BEAR = 7;
    private static final int AT_CHUTES = 2;
    private static final int CHUTE_TONS = 60;
    private static final int LIGHTER_TONS = 15;

    private static final int TRADER = 0, MAIL = 1, HELD = 2;
    /** Each body asks the one that stands over it, so a kind brings the numbers of all above it, too. */
    private static final int[] TRACE_OF_KIND = {1, 11, 111};
    private static final int MAIL_LESS = 500;
    private static final int HELD_MORE = 5000;
    private static final int HELD_DAYS = 9;

    private static final int LAY = 0, DEMURRAGE = 1, BACK = 2, NOT_SHUT = 3, NOT_HOLIDAYS = 4, NOT_DRY = 5;
    private static final int TERMS = 6;
    private static final int NO_TERM = -1;
    private static final int NO_FAULT = -1;
    private static final int FAULT_AT_START = -100;

    private static final int RAIN = 0, TURN = 1, WORK = 2;
    private static final int DRY = -1;
    private static final int BAD_LOADED = -2;
    private static final int BAD_OWED = -1000000;
    private static final int DAYS_OF_MEAN = 7;

    private final int[] swells = new int[LAST_DAY + 1];
    private final Layers layers = new Layers();
    private final Ship[] ships = new Ship[MOST_SHIPS];
    private final Ship[] line = new Ship[MOST_SHIPS];
    private final Draft draft = new Draft();
    private final Letters letters = new Letters();
    private int today = 0;
    private int shipCount = 0;
    private int delay = 20;
    private long trace = 0;

    public RockRoad() {
    }

    // ---- the rock

    public int layer(int tons, int worth) {
        if (!within(tons, 1, MOST_TONS) || !within(worth, 1, MOST_WORTH)) {
            return BAD;
        }
        if (layers.size >= MOST_LAYERS) {
            return FULL;
        }
        return layers.lay(tons, worth);
    }

    public int left(int layer) {
        return layers.has(layer) ? layers.tons[layer] : BAD;
    }

    public int swell(int day, int v) {
        if (!within(day, today, LAST_DAY) || !within(v, 0, MOST_SWELL)) {
            return BAD;
        }
        int was = swells[day];
        swells[day] = v;
        return was;
    }

    public int ship(int kind, int wants, int water) {
        if (!within(kind, TRADER, HELD) || !within(wants, 1, MOST_WANTED) || !within(water, 1, MOST_WATER)) {
            return BAD;
        }
        if (shipCount >= MOST_SHIPS) {
            return FULL;
        }
        ships[shipCount] = new Ship(shipCount, kind, today, wants, water);
        shipCount++;
        return shipCount - 1;
    }

    public int turn(int ship) {
        Ship asked = shipNumbered(ship);
        if (asked == null) {
            return BAD;
        }
        trace += TRACE_OF_KIND[asked.kind];
        return asked.turnOn(today);
    }

    public int days(int n) {
        if (!within(n, 1, MOST_DAYS_AT_ONCE)) {
            return BAD;
        }
        if (today + n > LAST_DAY) {
            return STATE;
        }
        for (int i = 0; i < n; i++) {
            letOneDayGo();
        }
        return today;
    }

    public int about(int ship, int what) {
        Ship asked = shipNumbered(ship);
        if (asked == null) {
            return BAD;
        }
        switch (what) {
            case 0: return asked.kind;
            case 1: return asked.arrival;
            case 2: return asked.wants;
            case 3: return asked.has;
            case 4: return asked.water;
            case 5: return asked.loadedOn;
            case 6: return layers.worthOf(asked.cargo);
            default: return BAD;
        }
    }

    public int cargo(int ship, int layer) {
        Ship asked = shipNumbered(ship);
        if (asked == null || !layers.has(layer)) {
            return BAD;
        }
        return asked.cargo[layer];
    }

    public int loaded(int ship, int day) {
        Ship asked = shipNumbered(ship);
        if (asked == null || !within(day, 0, today - 1)) {
            return BAD_LOADED;
        }
        return asked.log[day];
    }

    public int boat(int ship, int n) {
        Ship asked = shipNumbered(ship);
        if (asked == null || !within(n, 1, MOST_WATER)) {
            return BAD;
        }
        if (asked.isLoaded()) {
            return STATE;
        }
        asked.water = Math.min(MOST_WATER, asked.water + n);
        return asked.water;
    }

    public int sample(int ship, int k) {
        Ship asked = shipNumbered(ship);
        if (asked == null || !within(k, 1, MOST_SAMPLE_STEP)) {
            return BAD;
        }
        return layers.sampleOf(asked.cargo, k);
    }

    // ---- charters

    public int type(long v, int n) {
        if (!within(n, 1, MOST_BYTES_AT_ONCE)) {
            return BAD;
        }
        if (draft.length + n > MOST_BYTES) {
            return FULL;
        }
        draft.append(v, n);
        return draft.length;
    }

    public int clear() {
        int had = draft.length;
        draft.length = 0;
        return had;
    }

    public int charter(int ship) {
        Ship asked = shipNumbered(ship);
        if (asked == null) {
            return BAD;
        }
        if (draft.length == 0) {
            return STATE;
        }
        int fault = draft.read();
        if (fault != NO_FAULT) {
            return FAULT_AT_START - fault;
        }
        System.arraycopy(draft.terms, 0, asked.terms, 0, TERMS);
        draft.length = 0;
        return 1;
    }

    public int term(int ship, int what) {
        Ship asked = shipNumbered(ship);
        if (asked == null || !within(what, LAY, NOT_DRY)) {
            return BAD;
        }
        return asked.terms[what];
    }

    public int owed(int ship, int what) {
        Ship asked = shipNumbered(ship);
        if (asked == null || !within(what, 0, 1)) {
            return BAD_OWED;
        }
        return what == 0 ? usedBy(asked) : owedBy(asked);
    }

    public int shared(int ship, int what) {
        Ship asked = shipNumbered(ship);
        if (asked == null || !within(what, RAIN, WORK)) {
            return BAD;
        }
        int counted = 0;
        int found = 0;
        for (int day = asked.arrival; day <= lastDayOf(asked); day++) {
            if (counts(asked, day)) {
                counted++;
                if (counted > asked.terms[LAY] && shareOf(asked, day) == what) {
                    found++;
                }
            }
        }
        return found;
    }

    // ---- letters

    public int delay(int v) {
        if (!within(v, 0, MOST_DELAY)) {
            return BAD;
        }
        int was = delay;
        delay = v;
        return was;
    }

    public int letter(int day, int what) {
        if (!within(day, 0, LAST_DAY) || !within(what, 0, 2)) {
            return BAD;
        }
        if (day >= today || letters.comings[day] > today) {
            return NONE;
        }
        switch (what) {
            case 0: return letters.queues[day];
            case 1: return letters.dug[day];
            default: return letters.comings[day];
        }
    }

    public int foretold() {
        return letters.foretell(today);
    }

    public int count(int what) {
        switch (what) {
            case 0: return today;
            case 1: return shipCount;
            case 2: return layers.size;
            case 3: return loadedShips();
            case 4: return letters.dugFrom(0, today - 1);
            case 5: return draft.length;
            case 6: return dryShips();
            default: return BAD;
        }
    }

    public long trace() {
        return trace;
    }

    private static boolean within(int v, int least, int most) {
        return v >= least && v <= most;
    }

    private Ship shipNumbered(int number) {
        return number >= 0 && number < shipCount ? ships[number] : null;
    }

    private boolean chutesShut(int day) {
        return swells[day] > CHUTES_BEAR;
    }

    private boolean lightersShut(int day) {
        return swells[day] > LIGHTERS_BEAR;
    }

    /** days() looks ahead that TODAY is below LAST_DAY here, so that every row has a place for it. */
    private void letOneDayGo() {
        for (int i = 0; i < shipCount; i++) {
            ships[i].drink(today);
        }
        int dug = loadLine(lineUp());
        letters.tell(today, tonsWanted(), dug, today + delay);
        today++;
    }

    /** Puts those that can load into the line, by turns, and tells how many they are. */
    private int lineUp() {
        int size = 0;
        for (int i = 0; i < shipCount; i++) {
            if (!ships[i].isLoaded() && !ships[i].isDry()) {
                standInLine(ships[i], size);
                size++;
            }
        }
        return size;
    }

    /** Ships come here by numbers, so one of a like turn stays behind those that stand already. */
    private void standInLine(Ship comer, int size) {
        int place = size;
        while (place > 0 && line[place - 1].turnOn(today) > comer.turnOn(today)) {
            line[place] = line[place - 1];
            place--;
        }
        line[place] = comer;
    }

    private int loadLine(int size) {
        int dug = 0;
        for (int place = 0; place < size; place++) {
            Ship loads = line[place];
            int tons = layers.dig(Math.min(tonsAt(place), loads.wants), loads.cargo);
            loads.take(tons, today);
            dug += tons;
        }
        return dug;
    }

    private int tonsAt(int place) {
        if (place < AT_CHUTES && !chutesShut(today)) {
            return CHUTE_TONS;
        }
        return lightersShut(today) ? 0 : LIGHTER_TONS;
    }

    /** One that is LOADED wants nothing, so it need not be left out. */
    private int tonsWanted() {
        int sum = 0;
        for (int i = 0; i < shipCount; i++) {
            sum += ships[i].wants;
        }
        return sum;
    }

    private int loadedShips() {
        int found = 0;
        for (int i = 0; i < shipCount; i++) {
            if (ships[i].isLoaded()) {
                found++;
            }
        }
        return found;
    }

    private int dryShips() {
        int found = 0;
        for (int i = 0; i < shipCount; i++) {
            if (ships[i].isDry()) {
                found++;
            }
        }
        return found;
    }

    private int lastDayOf(Ship asked) {
        return asked.isLoaded() ? asked.loadedOn : today - 1;
    }

    private boolean counts(Ship asked, int day) {
        if (asked.agreed(NOT_SHUT) && chutesShut(day)) {
            return false;
        }
        if (asked.agreed(NOT_HOLIDAYS) && day % 7 == 6) {
            return false;
        }
        return !(asked.agreed(NOT_DRY) && asked.log[day] == DRY);
    }

    private int usedBy(Ship asked) {
        int used = 0;
        for (int day = asked.arrival; day <= lastDayOf(asked); day++) {
            if (counts(asked, day)) {
                used++;
            }
        }
        return used;
    }

    private int owedBy(Ship asked) {
        int over = usedBy(asked) - asked.terms[LAY];
        if (over > 0) {
            return over * asked.terms[DEMURRAGE];
        }
        return asked.isLoaded() ? over * asked.terms[BACK] : 0;
    }

    private int shareOf(Ship asked, int day) {
        if (lightersShut(day)) {
            return RAIN;
        }
        return asked.log[day] == 0 ? TURN : WORK;
    }

    private static final class Ship {
        final int number;
        final int kind;
        final int arrival;
        final int[] cargo = new int[MOST_LAYERS];
        final int[] terms = new int[TERMS];
        /** Of each DAY: the tons loaded, or DRY. */
        final int[] log = new int[LAST_DAY];
        int wants;
        int has = 0;
        int water;
        int loadedOn = NONE;

        Ship(int number, int kind, int arrival, int wants, int water) {
            this.number = number;
            this.kind = kind;
            this.arrival = arrival;
            this.wants = wants;
            this.water = water;
        }

        boolean isLoaded() {
            return loadedOn != NONE;
        }

        boolean isDry() {
            return !isLoaded() && water == 0;
        }

        boolean agreed(int what) {
            return terms[what] == 1;
        }

        /** Each kind goes by what the one over it does; in one method, as it is asked deep in a day. */
        int turnOn(int day) {
            int trader = 10 * arrival + number;
            if (kind == TRADER) {
                return trader;
            }
            int mail = trader - MAIL_LESS;
            if (kind == MAIL || day - arrival >= HELD_DAYS) {
                return mail;
            }
            return mail + HELD_MORE;
        }

        void drink(int day) {
            if (isLoaded()) {
                return;
            }
            water = Math.max(0, water - 1);
            if (water == 0) {
                log[day] = DRY;
            }
        }

        void take(int tons, int day) {
            wants -= tons;
            has += tons;
            log[day] = tons;
            if (wants == 0) {
                loadedOn = day;
            }
        }
    }

    private static final class Layers {
        final int[] tons = new int[MOST_LAYERS];
        final int[] worths = new int[MOST_LAYERS];
        int size = 0;

        boolean has(int layer) {
            return layer >= 0 && layer < size;
        }

        int lay(int some, int worth) {
            tons[size] = some;
            worths[size] = worth;
            size++;
            return size - 1;
        }

        /** Digs from the top what there is of so many tons, and adds them to a cargo. */
        int dig(int most, int[] cargo) {
            int dug = 0;
            for (int i = 0; i < size; i++) {
                int part = Math.min(most - dug, tons[i]);
                tons[i] -= part;
                cargo[i] += part;
                dug += part;
            }
            return dug;
        }

        int worthOf(int[] cargo) {
            int sum = 0;
            for (int i = 0; i < size; i++) {
                sum += cargo[i] * worths[i];
            }
            return sum;
        }

        /** A layer never grows and new ones lie below, so tons by layers are also tons as they came. */
        int sampleOf(int[] cargo, int step) {
            int ahead = 0;
            int sum = 0;
            int taken = 0;
            for (int i = 0; i < size; i++) {
                int upTo = ahead + cargo[i];
                int part = upTo / step - ahead / step;
                sum += part * worths[i];
                taken += part;
                ahead = upTo;
            }
            return taken == 0 ? NONE : sum / taken;
        }
    }

    private static final class Draft {
        final int[] bytes = new int[MOST_BYTES];
        /** What the last read() found; it means nothing if that told a FAULT. */
        final int[] terms = new int[TERMS];
        int length = 0;

        void append(long v, int n) {
            for (int i = n - 1; i >= 0; i--) {
                bytes[length] = (int) (v >>> (8 * i)) & 255;
                length++;
            }
        }

        /** Reads the text into terms; the place of its FAULT, or NO_FAULT. */
        int read() {
            for (int i = 0; i < TERMS; i++) {
                terms[i] = 0;
            }
            int open = NO_TERM;
            boolean digitDue = false;
            for (int place = 0; place < length; place++) {
                int next = bytes[place];
                if (next >= '0' && next <= '9') {
                    if (!takesNumber(open) || !addDigit(open, next - '0')) {
                        return place;
                    }
                    digitDue = false;
                } else {
                    open = termOf(next);
                    if (digitDue || open == NO_TERM) {
                        return place;
                    }
                    digitDue = takesNumber(open);
                    terms[open] = digitDue ? 0 : 1;
                }
            }
            return digitDue ? length : NO_FAULT;
        }

        private static boolean takesNumber(int term) {
            return term >= LAY && term <= BACK;
        }

        private boolean addDigit(int term, int digit) {
            terms[term] = 10 * terms[term] + digit;
            return terms[term] <= MOST_NUMBER;
        }

        private static int termOf(int letter) {
            switch (letter) {
                case 'l': return LAY;
                case 'd': return DEMURRAGE;
                case 'b': return BACK;
                case 'x': return NOT_SHUT;
                case 'h': return NOT_HOLIDAYS;
                case 'w': return NOT_DRY;
                default: return NO_TERM;
            }
        }
    }

    private static final class Letters {
        final int[] queues = new int[LAST_DAY];
        final int[] dug = new int[LAST_DAY];
        final int[] comings = new int[LAST_DAY];

        void tell(int day, int queue, int tons, int coming) {
            queues[day] = queue;
            dug[day] = tons;
            comings[day] = coming;
        }

        int dugFrom(int first, int last) {
            int sum = 0;
            for (int day = first; day <= last; day++) {
                sum += dug[day];
            }
            return sum;
        }

        int foretell(int today) {
            int day = latestCome(today);
            if (day == NONE) {
                return NONE;
            }
            int first = Math.max(0, day - DAYS_OF_MEAN + 1);
            int together = dugFrom(first, day);
            if (together == 0) {
                return NONE;
            }
            return (queues[day] * (day - first + 1) + together - 1) / together;
        }

        /** A shorter DELAY lets a later letter come first, so it is not the last that came. */
        private int latestCome(int today) {
            for (int day = today - 1; day >= 0; day--) {
                if (comings[day] <= today) {
                    return day;
                }
            }
            return NONE;
        }
    }
}
