import java.util.ArrayList;
import java.util.List;

/**
 * All that can be asked of an office, as a row of answers: two offices in the same state give the same row. What no call
 * tells (the text on the TAPE, THE LIST, the weather to come) is brought to light by going on, so the office is used up.
 */
final class Probe {
    private final HutLift x;
    private final List<Integer> answers = new ArrayList<>();
    private final int places;
    private final int machines;
    private final int pilots;

    private Probe(HutLift x) {
        this.x = x;
        places = x.count(0);
        machines = x.count(1);
        pilots = x.count(2);
    }

    static List<Integer> all(HutLift x) {
        Probe probe = new Probe(x);
        probe.counts();
        probe.things();
        probe.flightsNow();
        probe.found();
        probe.tapeAndList();
        probe.restOfTheDay();
        return probe.answers;
    }

    private void counts() {
        for (int what = 0; what <= 9; what++) {
            answers.add(x.count(what));
        }
    }

    private void things() {
        for (int machine = 0; machine < machines; machine++) {
            for (int what = 0; what <= 4; what++) {
                answers.add(x.about(machine, what));
            }
        }
        for (int pilot = 0; pilot < pilots; pilot++) {
            for (int what = 0; what <= 2; what++) {
                answers.add(x.pilotOf(pilot, what));
            }
        }
        for (int load : sample(x.count(3), 12)) {
            for (int what = 0; what <= 5; what++) {
                answers.add(x.cargo(load, what));
            }
        }
        for (int flight : sample(x.count(5), 3)) {
            for (int what = 0; what <= 8; what++) {
                answers.add(x.flight(flight, what));
            }
        }
        for (int place = 0; place < places; place++) {
            answers.add(x.lift(0, place, 0));
        }
        for (int hour = 1; hour < 12; hour++) {
            answers.add(x.lift(0, 0, hour));
        }
    }

    /** Some numbers below size, the first, the last and the one behind it among them: an object has but 512 calls. */
    private static List<Integer> sample(int size, int most) {
        List<Integer> some = new ArrayList<>();
        int step = size <= most ? 1 : size / most + 1;
        for (int i = 0; i < size - 1; i += step) {
            some.add(i);
        }
        if (size > 0) {
            some.add(size - 1);
        }
        some.add(size);
        return some;
    }

    private void flightsNow() {
        for (int rule = 0; rule < x.count(4); rule++) {
            answers.add(x.says(rule, 0, 0, 1));
            answers.add(x.says(rule, machines - 1, pilots - 1, places - 1));
        }
        for (int machine = 0; machine < machines; machine++) {
            answers.add(x.may(machine, pilots - 1, 1));
            answers.add(x.may(machine, 0, places - 1));
        }
        for (int place : sample(places, 3)) {
            answers.add(x.pack(place, 60));
            answers.add(x.pack(place, 400));
        }
    }

    private void found() {
        for (int i = 0; i < 5; i++) {
            answers.add(x.ordered(i));
        }
    }

    /** What lies on the TAPE becomes a RULE, whose worth is asked; all RULES go; then THE LIST is flown. */
    private void tapeAndList() {
        answers.add(x.rule());
        answers.add(x.says(x.count(4) - 1, 0, 0, 1));
        answers.add(x.count(9));
        for (int left = x.count(4); left > 0; left--) {
            answers.add(x.drop());
        }
        answers.add(x.list(1));
        for (int machine = 0; machine < machines; machine++) {
            answers.add(x.order(machine, pilots - 1));
            found();
        }
    }

    /** The weather comes to light as its HOURS come, and so does what is in the air. */
    private void restOfTheDay() {
        Due.rule(x, "w10*s+");
        for (int i = x.count(6) / 60; i < 12; i++) {
            answers.add(x.says(0, 0, 0, 1));
            answers.add(x.count(7));
            answers.add(x.count(8));
            answers.add(x.minute(Math.min(60, Math.max(1, 720 - x.count(6)))));
        }
        for (int load : sample(x.count(3), 12)) {
            answers.add(x.cargo(load, 3));
        }
    }
}
