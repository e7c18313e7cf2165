import java.util.List;

/** What the tests share: it tells each answer that is not as due, by its promise, and ends with exit code 1 if one was. */
final class Due {
    /** In the document's order: the first one is promise 1. */
    private static final List<String> PROMISES = List.of("a new object", "layer", "left", "swell", "ship", "turn",
        "days", "about", "cargo", "loaded", "boat", "sample", "type", "clear", "charter", "term", "owed", "shared",
        "delay", "letter", "foretold", "count", "trace");

    private static final int MOST_SECONDS = 120;

    private final int[] answers = new int[PROMISES.size() + 1];
    private volatile String where = "the face";
    private int number = 0;
    private int asked = 0;
    private int wrong = 0;

    Due() {
        Thread.setDefaultUncaughtExceptionHandler((thread, thrown) -> stop("threw " + thrown));
        Thread watch = new Thread(this::watch);
        watch.setDaemon(true);
        watch.start();
    }

    private void watch() {
        try {
            Thread.sleep(1000L * MOST_SECONDS);
            stop("did not end in " + MOST_SECONDS + " seconds");
        } catch (InterruptedException e) {
            stop("lost its watch");
        }
    }

    /** A call that throws or does not end has no answer to compare, but its promise is named, too. */
    private void stop(String why) {
        System.out.println(where + ": behind " + asked + " answers the test " + why);
        System.out.flush();
        Runtime.getRuntime().halt(1);
    }

    /** What is asked from here on belongs to a promise, and to a sentence that says it. */
    void promise(int promise, String sentence) {
        number = promise;
        where = "promise " + promise + " (" + PROMISES.get(promise - 1) + "), " + sentence;
    }

    /** What is asked from here on belongs to no promise. */
    void topic(String place) {
        number = 0;
        where = place;
    }

    void promiseOf(String call) {
        promise(numberOf(call), "by the name of the call");
    }

    static int numberOf(String call) {
        int place = PROMISES.indexOf(call);
        if (place < 1) {
            throw new IllegalArgumentException("no promise has the name " + call);
        }
        return place + 1;
    }

    void is(String what, long got, long due) {
        asked++;
        answers[number]++;
        if (got != due) {
            wrong++;
            System.out.println(where + ": " + what + " answered " + got + ", due is " + due);
        }
    }

    void holds(String what, boolean held) {
        is(what, held ? 1 : 0, 1);
    }

    /** A sentence of a promise holds in a story: see Story for how it is written. */
    void says(int promise, String sentence, String story) {
        promise(promise, sentence);
        Story.of(story).checkBy(this);
    }

    boolean anyWrong() {
        return wrong > 0;
    }

    /** A test that was to ask each of these promises did so. */
    void covers(int first, int last) {
        for (int promise = first; promise <= last; promise++) {
            boolean any = answers[promise] > 0;
            promise(promise, "is tested here");
            holds("whether it was asked", any);
        }
    }

    void end() {
        System.out.println(asked + " answers, " + wrong + " not as due");
        if (wrong > 0 || asked == 0) {
            System.exit(1);
        }
    }

    /** Types a text into the draft, eight bytes at a time at most. */
    static void type(RockRoad road, String text) {
        for (int from = 0; from < text.length(); from += 8) {
            int to = Math.min(text.length(), from + 8);
            road.type(packed(text.substring(from, to)), to - from);
        }
    }

    static long packed(String text) {
        long v = 0;
        for (int i = 0; i < text.length(); i++) {
            v = v << 8 | text.charAt(i);
        }
        return v;
    }

    static void letGo(RockRoad road, int days) {
        for (int left = days; left > 0; left -= 20) {
            road.days(Math.min(20, left));
        }
    }
}
