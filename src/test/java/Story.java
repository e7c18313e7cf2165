import java.util.ArrayList;
import java.util.List;
import java.util.regex.Matcher;
import java.util.regex.Pattern;

/**
 * A run of calls on a new object, written as a text: "layer(9, 1) = 0; 3 * days(20); about(0, 5) = NONE".
 * Numbers may be MIN, MAX (of int), LOW, HIGH (of long) or the bytes of a 'text'; write('text') types a whole text.
 */
final class Story {
    /** What an object answers behind its 512th call is free, so no test asks there. */
    private static final int MOST_CALLS = 512;
    private static final Pattern STEP =
        Pattern.compile("\\s*(?:(\\d+) \\* )?(\\w+)\\(((?:'[^']*'|[^'()])*)\\)(?: = (-?\\w+))?\\s*", Pattern.DOTALL);

    private final List<Call> calls = new ArrayList<>();
    /** The answer that is due to each call; null, where any is. */
    private final List<Long> dues = new ArrayList<>();

    static Story of(String text) {
        Story story = new Story();
        for (String step : text.split(";")) {
            if (!step.isBlank()) {
                story.add(step);
            }
        }
        if (story.calls.size() > MOST_CALLS) {
            throw new IllegalArgumentException("more than " + MOST_CALLS + " calls: " + text);
        }
        return story;
    }

    private void add(String step) {
        Matcher matcher = STEP.matcher(step);
        if (!matcher.matches()) {
            throw new IllegalArgumentException("no step of a story: " + step);
        }
        int times = matcher.group(1) == null ? 1 : Integer.parseInt(matcher.group(1));
        Long due = matcher.group(4) == null ? null : Long.valueOf(number(matcher.group(4)));
        for (int i = 0; i < times; i++) {
            if (matcher.group(2).equals("write")) {
                addText(unquoted(matcher.group(3)));
            } else {
                calls.add(new Call(matcher.group(2), numbers(matcher.group(3))));
                dues.add(due);
            }
        }
    }

    private void addText(String text) {
        for (int from = 0; from < text.length(); from += 8) {
            int to = Math.min(text.length(), from + 8);
            calls.add(new Call("type", Due.packed(text.substring(from, to)), to - from));
            dues.add(null);
        }
    }

    private static long[] numbers(String text) {
        if (text.isBlank()) {
            return new long[0];
        }
        String[] parts = text.split(",");
        long[] numbers = new long[parts.length];
        for (int i = 0; i < parts.length; i++) {
            numbers[i] = number(parts[i].strip());
        }
        return numbers;
    }

    private static long number(String text) {
        switch (text) {
            case "MIN": return Integer.MIN_VALUE;
            case "MAX": return Integer.MAX_VALUE;
            case "LOW": return Long.MIN_VALUE;
            case "HIGH": return Long.MAX_VALUE;
            case "BAD": return -1;
            case "STATE": return -2;
            case "FULL": return -3;
            case "NONE": return -9;
            default: break;
        }
        if (text.startsWith("'")) {
            return Due.packed(unquoted(text));
        }
        return text.startsWith("0x") ? Long.parseUnsignedLong(text.substring(2), 16) : Long.parseLong(text);
    }

    private static String unquoted(String text) {
        if (text.length() < 2 || !text.startsWith("'") || !text.endsWith("'")) {
            throw new IllegalArgumentException("no 'text': " + text);
        }
        return text.substring(1, text.length() - 1);
    }

    int size() {
        return calls.size();
    }

    void checkBy(Due due) {
        RockRoad road = new RockRoad();
        for (int i = 0; i < calls.size(); i++) {
            long got = calls.get(i).on(road);
            if (dues.get(i) != null) {
                due.is("call " + (i + 1) + ", " + calls.get(i) + ",", got, dues.get(i));
            }
        }
    }

    RockRoad road() {
        RockRoad road = new RockRoad();
        for (Call call : calls) {
            call.on(road);
        }
        return road;
    }

    Model model() {
        Model model = new Model();
        for (Call call : calls) {
            call.on(model);
        }
        return model;
    }
}
