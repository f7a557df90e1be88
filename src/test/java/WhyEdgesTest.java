import java.util.function.Supplier;

/** The edges that the document names of promise 13, and of WHY in promise 14. */
public final class WhyEdgesTest {
    private static final Due DUE = new Due("WhyEdgesTest");
    private static final Twins BUSY = new Twins(DUE, Scenes::busy);
    private static final int NONE = HutLift.NONE;

    public static void main(String[] args) {
        refusesWhatIsNotThere();
        why1MachineIsNotFree();
        why2PilotIsNotFree();
        why2PilotRestsBeyondTheDay();
        why3AnotherPlace();
        why4BackIsAbove720();
        why4WithALongOne();
        why5InTheValley();
        why5There();
        why5ThereInTheHourOfSet();
        why5WithNothing();
        why6Fuel();
        why6QuotientsOfWhatHangs();
        why6QuotientsOfRiders();
        why7Most();
        why8Cold();
        why8OnlyCold();
        why10AndRules();
        why10OfThisFlight();
        firstWhyOfTwo();
        DUE.end();
    }

    /** What may() tells is what fly() refuses, and neither changes anything; 0 lets it fly. */
    private static void why(String what, int want, Supplier<HutLift> scene) {
        new Twins(DUE, scene).changesNothing(what + ": may", want, x -> x.may(0, 0, 1));
        if (want == 0) {
            DUE.is(what + ": fly", scene.get().fly(0, 0, 1), scene.get().count(5));
        } else {
            new Twins(DUE, scene).changesNothing(what + ": fly", -10 - want, x -> x.fly(0, 0, 1));
        }
    }

    private static void refusesWhatIsNotThere() {
        BUSY.range("may(_, 0, 1)", 0, 2, NONE, (x, n) -> x.may(n, 0, 1));
        BUSY.range("may(0, _, 1)", 0, 2, NONE, (x, n) -> x.may(0, n, 1));
        BUSY.range("may(0, 0, _)", 1, 3, NONE, (x, n) -> x.may(0, 0, n));
        BUSY.range("fly(_, 0, 1)", 0, 2, NONE, (x, n) -> x.fly(n, 0, 1));
        BUSY.range("fly(0, _, 1)", 0, 2, NONE, (x, n) -> x.fly(0, n, 1));
        BUSY.range("fly(0, 0, _)", 1, 3, NONE, (x, n) -> x.fly(0, 0, n));
        BUSY.changesNothing("NONE is ahead of WHY, pilot", NONE, x -> x.fly(Scenes.AWAY, 3, 1));
        BUSY.changesNothing("NONE is ahead of WHY, place", NONE, x -> x.fly(Scenes.AWAY, Scenes.FLYING, 0));
        HutLift x = new HutLift();
        DUE.is("there is nothing", x.may(0, 0, 1), NONE);
        x.place(0, 1);
        x.machine(1, 100);
        DUE.is("there is no PILOT", x.may(0, 0, 1), NONE);
        x.pilot(720, 0);
        DUE.is("there is all", x.may(0, 0, 1), 0);
    }

    /** The machine went 10 minutes off and back, with another pilot. */
    private static HutLift machineAway(int since) {
        HutLift x = Scenes.hut(10);
        x.pilot(720, 0);
        x.fly(0, 1, 1);
        x.minute(since);
        return x;
    }

    private static void why1MachineIsNotFree() {
        why("a minute behind its begin", 1, () -> machineAway(1));
        why("a minute ahead of BACK", 1, () -> machineAway(21));
        why("at BACK", 0, () -> machineAway(22));
        why("a minute behind BACK", 0, () -> machineAway(23));
        HutLift x = Scenes.hut(10);
        x.pilot(720, 0);
        x.fly(0, 1, 1);
        DUE.is("at its begin", x.may(0, 0, 1), 1);
    }

    /** The pilot went 10 minutes off and back, with another machine. */
    private static HutLift pilotAway(int rest, int since) {
        HutLift x = new HutLift();
        x.place(0, 10);
        x.machine(200, 2000);
        x.machine(200, 2000);
        x.pilot(720, rest);
        x.fly(1, 0, 1);
        x.minute(since);
        return x;
    }

    private static void why2PilotIsNotFree() {
        why("a minute ahead of BACK", 2, () -> pilotAway(0, 21));
        why("at BACK without REST", 0, () -> pilotAway(0, 22));
        why("a minute behind BACK without REST", 0, () -> pilotAway(0, 23));
        why("at BACK with a REST of 1", 2, () -> pilotAway(1, 22));
        why("behind a REST of 1", 0, () -> pilotAway(1, 23));
        why("in the last minute of REST", 2, () -> pilotAway(30, 51));
        why("at the end of REST", 0, () -> pilotAway(30, 52));
        why("behind the end of REST", 0, () -> pilotAway(30, 53));
    }

    private static void why2PilotRestsBeyondTheDay() {
        HutLift x = Scenes.hutAt(1, 716);
        x.pilot(720, 120);
        DUE.is("the last flight", x.fly(0, 1, 1), 0);
        DUE.is("FREE is beyond 720", x.pilotOf(1, 1), 840);
        x.minute(4);
        DUE.is("the MACHINE is FREE, the PILOT rests", x.may(0, 1, 1), 2);
    }

    private static HutLift hanging(int cargo, int place) {
        HutLift x = new HutLift();
        x.place(0, 5);
        x.place(0, 5);
        x.machine(100, 1000);
        x.pilot(720, 0);
        x.load(cargo + 100 * place, 10, 0, 720);
        x.hang(0, 0);
        return x;
    }

    private static void why3AnotherPlace() {
        why("something hangs for PLACE 2", 3, () -> hanging(1, 2));
        why("something hangs for PLACE 1", 0, () -> hanging(1, 1));
        HutLift x = hanging(1, 1);
        DUE.is("to PLACE 2", x.may(0, 0, 2), 3);
        x.off(0);
        DUE.is("to PLACE 2 with nothing", x.may(0, 0, 2), 0);
    }

    private static void why4BackIsAbove720() {
        why("BACK at 719", 0, () -> Scenes.hutAt(10, 697));
        why("BACK at 720", 0, () -> Scenes.hutAt(10, 698));
        why("BACK at 721", 4, () -> Scenes.hutAt(10, 699));
        why("the longest, BACK at 720", 0, () -> Scenes.hutAt(60, 598));
        why("the longest, BACK at 721", 4, () -> Scenes.hutAt(60, 599));
        why("the shortest, BACK at 720", 0, () -> Scenes.hutAt(1, 716));
        why("the shortest, BACK at 721", 4, () -> Scenes.hutAt(1, 717));
        why("at 720", 4, () -> Scenes.hutAt(1, 720));
    }

    private static HutLift longOneAt(int minute) {
        HutLift x = Scenes.hutAt(10, minute);
        x.load(10101, 5, 0, 720);
        x.hang(0, 0);
        return x;
    }

    /** WAY is doubled, so BACK is 42 behind the begin. */
    private static void why4WithALongOne() {
        why("LONG, BACK at 720", 0, () -> longOneAt(678));
        why("LONG, BACK at 721", 4, () -> longOneAt(679));
    }

    /** A machine of BASE 100 and a hut on the VALLEY's height, a minute off. */
    private static HutLift heavy(int height, int... weights) {
        HutLift x = new HutLift();
        x.place(height, 1);
        x.machine(100, 1000);
        x.pilot(720, 0);
        for (int i = 0; i < weights.length; i++) {
            x.load(101, weights[i], 0, 720);
            x.hang(0, i);
        }
        return x;
    }

    private static HutLift warm(HutLift x, int hour, int warmth) {
        x.hour(hour, 0, warmth, 9);
        return x;
    }

    private static HutLift at(HutLift x, int minute) {
        Due.pass(x, minute);
        return x;
    }

    private static void why5InTheValley() {
        why("99 of 100", 0, () -> heavy(0, 50, 49));
        why("100 of 100", 0, () -> heavy(0, 50, 50));
        why("101 of 100", 5, () -> heavy(0, 50, 51));
        why("WARMTH takes one too many in the VALLEY", 5, () -> at(warm(heavy(0, 50, 50), 0, 1), 59));
        why("WARMTH takes none too many in the VALLEY", 0, () -> at(warm(heavy(0, 50, 49), 0, 1), 59));
        why("no WARMTH from HOUR 1 on", 0, () -> at(warm(heavy(0, 50, 50), 0, 1), 60));
    }

    private static void why5There() {
        why("79 at HEIGHT 5", 0, () -> heavy(5, 79));
        why("80 at HEIGHT 5", 0, () -> heavy(5, 80));
        why("81 at HEIGHT 5", 5, () -> heavy(5, 81));
        why("64 at HEIGHT 9", 0, () -> heavy(9, 64));
        why("65 at HEIGHT 9", 5, () -> heavy(9, 65));
        why("79 at HEIGHT 5 in WARMTH 1", 0, () -> warm(heavy(5, 79), 0, 1));
        why("80 at HEIGHT 5 in WARMTH 1", 5, () -> warm(heavy(5, 80), 0, 1));
    }

    /** It is warm in HOUR 1 alone; SET is a minute behind the begin. */
    private static void why5ThereInTheHourOfSet() {
        why("SET at 59", 0, () -> at(warm(heavy(5, 80), 1, 1), 58));
        why("SET at 60", 5, () -> at(warm(heavy(5, 80), 1, 1), 59));
        why("SET at 119", 5, () -> at(warm(heavy(5, 80), 1, 1), 118));
        why("SET at 120", 0, () -> at(warm(heavy(5, 80), 1, 1), 119));
        why("SET at 717", 5, () -> at(warm(heavy(5, 80), 11, 1), 716));
    }

    private static void why5WithNothing() {
        HutLift x = new HutLift();
        x.place(9, 1);
        x.machine(1, 1000);
        x.pilot(720, 0);
        x.load(101, 1, 0, 0);
        DUE.is("LIFT there", x.lift(0, 1, 0), 0);
        DUE.is("nothing on a LIFT of 0", x.may(0, 0, 1), 0);
        x.hang(0, 0);
        DUE.is("1 on a LIFT of 0", x.may(0, 0, 1), 5);
    }

    /** Way 10: 40 are burnt with nothing hanging and no riders. */
    private static HutLift fuelled(int tank, int hung, int... riders) {
        HutLift x = new HutLift();
        x.place(0, 10);
        x.machine(200, tank);
        x.pilot(720, 0);
        if (hung > 0) {
            x.load(101, hung, 0, 720);
            x.hang(0, 0);
        }
        for (int rider : riders) {
            x.load(40101, rider, 0, 720);
        }
        return x;
    }

    private static void why6Fuel() {
        why("BURNT and 9", 6, () -> fuelled(49, 0));
        why("BURNT and 10", 0, () -> fuelled(50, 0));
        why("BURNT and 11", 0, () -> fuelled(51, 0));
        why("FUEL of 1", 6, () -> fuelled(1, 0));
        HutLift x = fuelled(90, 0);
        DUE.is("a flight", x.fly(0, 0, 1), 0);
        DUE.is("FUEL", x.about(0, 0), 50);
        x.minute(22);
        DUE.is("another", x.fly(0, 0, 1), 1);
        DUE.is("FUEL", x.about(0, 0), 10);
        x.minute(22);
        DUE.is("a third", x.fly(0, 0, 1), -16);
        x.fuel(0);
        DUE.is("with more FUEL", x.fly(0, 0, 1), 2);
    }

    private static void why6QuotientsOfWhatHangs() {
        why("19 hang, 50", 0, () -> fuelled(50, 19));
        why("20 hang, 50", 6, () -> fuelled(50, 20));
        why("20 hang, 59", 6, () -> fuelled(59, 20));
        why("20 hang, 60", 0, () -> fuelled(60, 20));
        why("39 hang, 60", 0, () -> fuelled(60, 39));
        why("40 hang, 60", 6, () -> fuelled(60, 40));
        why("99 hang, 89", 6, () -> fuelled(89, 99));
        why("99 hang, 90", 0, () -> fuelled(90, 99));
    }

    private static void why6QuotientsOfRiders() {
        why("19 ride, 50", 0, () -> fuelled(50, 0, 19));
        why("20 ride, 59", 6, () -> fuelled(59, 0, 20));
        why("20 ride, 60", 0, () -> fuelled(60, 0, 20));
        why("10 and 9 ride, 50", 0, () -> fuelled(50, 0, 10, 9));
        why("10 and 10 ride, 59", 6, () -> fuelled(59, 0, 10, 10));
        why("10 and 10 ride, 60", 0, () -> fuelled(60, 0, 10, 10));
        why("each quotient by itself: 19 hang, 19 ride", 0, () -> fuelled(50, 19, 19));
        why("20 hang, 20 ride, 69", 6, () -> fuelled(69, 20, 20));
        why("20 hang, 20 ride, 70", 0, () -> fuelled(70, 20, 20));
    }

    /** A flight of 22 minutes, others of them ahead of it. */
    private static HutLift flownBy(int most, int flights) {
        HutLift x = new HutLift();
        x.place(0, 10);
        x.machine(200, 2000);
        x.pilot(most, 0);
        for (int i = 0; i < flights; i++) {
            x.fly(0, 0, 1);
            x.minute(22);
        }
        return x;
    }

    private static void why7Most() {
        why("22 of 0", 7, () -> flownBy(0, 0));
        why("22 of 21", 7, () -> flownBy(21, 0));
        why("22 of 22", 0, () -> flownBy(22, 0));
        why("22 of 23", 0, () -> flownBy(23, 0));
        why("44 of 43", 7, () -> flownBy(43, 1));
        why("44 of 44", 0, () -> flownBy(44, 1));
        why("44 of 45", 0, () -> flownBy(45, 1));
        why("66 of 65", 7, () -> flownBy(65, 2));
        why("66 of 66", 0, () -> flownBy(66, 2));
    }

    /** A load of some kind with a READY, and a plain one beside it where that may be; SET is 10 behind now. */
    private static HutLift readyOf(int kind, int ready, int now) {
        HutLift x = Scenes.hutAt(10, now);
        x.load(10000 * kind + 101, 5, ready, 720);
        x.load(101, 5, 0, 720);
        x.hang(0, 1);
        if (x.hang(0, 0) < 0) {
            x.off(1);
            x.hang(0, 0);
        }
        return x;
    }

    private static void why8Cold() {
        why("SET 89 behind READY", 0, () -> readyOf(2, 100, 179));
        why("SET 90 behind READY", 0, () -> readyOf(2, 100, 180));
        why("SET 91 behind READY", 8, () -> readyOf(2, 100, 181));
        why("SET 90 behind READY 0", 0, () -> readyOf(2, 0, 80));
        why("SET 91 behind READY 0", 8, () -> readyOf(2, 0, 81));
        why("SET just behind READY", 0, () -> readyOf(2, 500, 500));
        for (int first = 0; first < 3; first++) {
            HutLift x = Scenes.hutAt(10, 81);
            for (int i = 0; i < 3; i++) {
                x.load(i == first ? 20101 : 101, 5, 0, 720);
                x.hang(0, i);
            }
            DUE.is("one COLD one, hung as " + first + " of 3", x.may(0, 0, 1), 8);
        }
    }

    private static void why8OnlyCold() {
        for (int kind : new int[] {0, 1, 3}) {
            why("KIND " + kind + " keeps", 0, () -> readyOf(kind, 0, 300));
        }
        HutLift x = readyOf(2, 0, 300);
        DUE.is("a COLD one hangs", x.may(0, 0, 1), 8);
        x.off(0);
        DUE.is("it is off", x.may(0, 0, 1), 0);
        x.load(40101, 5, 0, 720);
        DUE.is("a DOWN one keeps", x.may(0, 0, 1), 0);
    }

    private static HutLift ruled(int zeroFrom, int rules) {
        HutLift x = Scenes.hut(1);
        for (int i = 0; i < rules; i++) {
            Due.rule(x, i >= zeroFrom ? "0" : i % 2 == 0 ? "7" : "0 1-");
        }
        return x;
    }

    private static void why10AndRules() {
        why("no RULES", 0, () -> ruled(0, 0));
        why("ten RULES that hold", 0, () -> ruled(10, 10));
        for (int i = 0; i < 10; i++) {
            int first = i;
            why("RULE " + i + " and those behind it", 10 + i, () -> ruled(first, 10));
        }
        HutLift x = ruled(9, 10);
        x.drop();
        DUE.is("RULE 9 is gone", x.may(0, 0, 1), 0);
    }

    /** RULES see the machine, the pilot and the place that are asked about, whatever was asked ahead of it. */
    private static void why10OfThisFlight() {
        HutLift x = Scenes.hut(1);
        x.place(4, 2);
        x.machine(100, 1000);
        x.pilot(720, 0);
        x.load(201, 7, 0, 720);
        x.hang(1, 0);
        x.fly(0, 1, 1);
        x.minute(4);
        Due.rule(x, "p2=e4=&");
        Due.rule(x, "l7=n1=&");
        Due.rule(x, "f4=m4=&");
        DUE.is("all three hold", x.may(1, 1, 2), 0);
        DUE.is("RULE 0 gives 0", x.may(0, 1, 1), 10);
        DUE.is("all three hold still", x.may(1, 1, 2), 0);
        DUE.is("RULE 1 gives 0", x.may(0, 1, 2), 11);
        DUE.is("RULE 2 gives 0", x.may(1, 0, 2), 12);
        DUE.is("all three hold at last", x.fly(1, 1, 2), 1);
    }

    /** Where a WHY and the next one hold, the lesser is told. */
    private static void firstWhyOfTwo() {
        why("1 ahead of 2", 1, () -> {
            HutLift x = Scenes.hut(10);
            x.fly(0, 0, 1);
            return x;
        });
        why("2 ahead of 3", 2, () -> {
            HutLift x = hanging(1, 2);
            x.machine(9, 99);
            x.fly(1, 0, 1);
            return x;
        });
        why("3 ahead of 4", 3, () -> at(hanging(1, 2), 720));
        why("4 ahead of 5", 4, () -> at(heavy(0, 99, 99), 720));
        why("5 ahead of 6", 5, () -> tight(0, 101, 10, 720, "1"));
        why("6 ahead of 7", 6, () -> tight(0, 40, 10, 0, "1"));
        why("7 ahead of 8", 7, () -> tight(300, 40, 2000, 0, "1"));
        why("8 ahead of 10", 8, () -> tight(300, 40, 2000, 720, "0"));
        why("10 at last", 10, () -> tight(0, 40, 2000, 720, "0"));
    }

    /** COLD ones of some weight, READY at 0, on a machine of BASE 100. */
    private static HutLift tight(int now, int weight, int tank, int most, String rule) {
        HutLift x = new HutLift();
        x.place(0, 10);
        x.machine(100, tank);
        x.pilot(most, 0);
        x.load(20101, weight / 2, 0, 720);
        x.load(20101, weight - weight / 2, 0, 720);
        x.hang(0, 0);
        x.hang(0, 1);
        Due.rule(x, rule);
        Due.pass(x, now);
        return x;
    }
}
