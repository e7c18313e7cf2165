/** What the tests share: it tells each answer that is not as due, and ends with exit code 1 if there was one. */
final class Due {
    private int asked = 0;
    private int wrong = 0;

    void is(String what, long got, long due) {
        asked++;
        if (got != due) {
            wrong++;
            System.out.println(what + " answered " + got + ", due is " + due);
        }
    }

    void holds(String what, boolean held) {
        is(what, held ? 1 : 0, 1);
    }

    boolean anyWrong() {
        return wrong > 0;
    }

    void end() {
        System.out.println(asked + " answers, " + wrong + " not as due");
        if (wrong > 0 || asked == 0) {
            System.exit(1);
        }
    }

    /** Types a text into the draft, eight bytes at a time at most. */
    static void type(RockRoad road, String text) {
        for (int from = 0; from < text.length(); from += 8) {
            int to = Math.min(text.length(), from + 8);
            road.type(packed(text.substring(from, to)), to - from);
        }
    }

    static long packed(String text) {
        long v = 0;
        for (int i = 0; i < text.length(); i++) {
            v = v << 8 | text.charAt(i);
        }
        return v;
    }

    static void letGo(RockRoad road, int days) {
        for (int left = days; left > 0; left -= 20) {
            road.days(Math.min(20, left));
        }
    }
}
