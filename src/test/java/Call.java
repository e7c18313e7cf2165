/** One call with its numbers, so that tests can hold calls in rows and make them on many objects. */
final class Call {
    final String name;
    private final long[] numbers;

    Call(String name, long... numbers) {
        this.name = name;
        this.numbers = numbers;
        if (numbers.length != arity(name)) {
            throw new IllegalArgumentException(this + " has too few or too many numbers");
        }
    }

    private static int arity(String name) {
        switch (name) {
            case "clear": case "foretold": case "trace":
                return 0;
            case "left": case "turn": case "days": case "charter": case "delay": case "count":
                return 1;
            case "ship":
                return 3;
            default:
                return 2;
        }
    }

    private int at(int place) {
        return (int) numbers[place];
    }

    long on(RockRoad road) {
        switch (name) {
            case "layer": return road.layer(at(0), at(1));
            case "left": return road.left(at(0));
            case "swell": return road.swell(at(0), at(1));
            case "ship": return road.ship(at(0), at(1), at(2));
            case "turn": return road.turn(at(0));
            case "days": return road.days(at(0));
            case "about": return road.about(at(0), at(1));
            case "cargo": return road.cargo(at(0), at(1));
            case "loaded": return road.loaded(at(0), at(1));
            case "boat": return road.boat(at(0), at(1));
            case "sample": return road.sample(at(0), at(1));
            case "type": return road.type(numbers[0], at(1));
            case "clear": return road.clear();
            case "charter": return road.charter(at(0));
            case "term": return road.term(at(0), at(1));
            case "owed": return road.owed(at(0), at(1));
            case "shared": return road.shared(at(0), at(1));
            case "delay": return road.delay(at(0));
            case "letter": return road.letter(at(0), at(1));
            case "foretold": return road.foretold();
            case "count": return road.count(at(0));
            case "trace": return road.trace();
            default: throw new IllegalArgumentException("no call has the name " + name);
        }
    }

    long on(Model model) {
        switch (name) {
            case "layer": return model.layer(at(0), at(1));
            case "left": return model.left(at(0));
            case "swell": return model.swell(at(0), at(1));
            case "ship": return model.ship(at(0), at(1), at(2));
            case "turn": return model.turn(at(0));
            case "days": return model.days(at(0));
            case "about": return model.about(at(0), at(1));
            case "cargo": return model.cargo(at(0), at(1));
            case "loaded": return model.loaded(at(0), at(1));
            case "boat": return model.boat(at(0), at(1));
            case "sample": return model.sample(at(0), at(1));
            case "type": return model.type(numbers[0], at(1));
            case "clear": return model.clear();
            case "charter": return model.charter(at(0));
            case "term": return model.term(at(0), at(1));
            case "owed": return model.owed(at(0), at(1));
            case "shared": return model.shared(at(0), at(1));
            case "delay": return model.delay(at(0));
            case "letter": return model.letter(at(0), at(1));
            case "foretold": return model.foretold();
            case "count": return model.count(at(0));
            case "trace": return model.trace;
            default: throw new IllegalArgumentException("no call has the name " + name);
        }
    }

    @Override
    public String toString() {
        StringBuilder text = new StringBuilder(name).append('(');
        for (int i = 0; i < numbers.length; i++) {
            text.append(i == 0 ? "" : ", ").append(numbers[i]);
        }
        return text.append(')').toString();
    }
}
