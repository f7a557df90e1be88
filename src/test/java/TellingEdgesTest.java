/** The edges that the document names of promises 17 to 21 and 26, and of COST. */
public final class TellingEdgesTest {
    private static final Due DUE = new Due("TellingEdgesTest");
    private static final Twins BUSY = new Twins(DUE, Scenes::busy);
    private static final int NOT_TOLD = -9;

    public static void main(String[] args) {
        aboutRefuses();
        aboutOfANewMachine();
        pilotOfRefuses();
        pilotOfOneWhoMayFlyNoMore();
        cargoRefuses();
        cargoInEachState();
        flightRefuses();
        liftRefuses();
        countRefuses();
        countOfNothing();
        tellingChangesNothing();
        costIsZeroAhead();
        costWithoutARest();
        costOfTheRestToTheLeast();
        costOfTheRestToTheLeastThatRides();
        costThatIsAllRest();
        costOfOneAlone();
        costOfNone();
        costIsAllOfTheMinutes();
        DUE.end();
    }

    private static void aboutRefuses() {
        BUSY.range("about(_, 0)", 0, 2, NOT_TOLD, (x, n) -> x.about(n, 0));
        BUSY.range("about(0, _)", 0, 4, NOT_TOLD, (x, n) -> x.about(0, n));
        DUE.is("no MACHINE yet", new HutLift().about(0, 0), NOT_TOLD);
    }

    private static void tells(String what, int[] got, int... want) {
        for (int i = 0; i < want.length; i++) {
            DUE.is(what + ", " + i, got[i], want[i]);
        }
    }

    private static int[] ofMachine(HutLift x, int machine) {
        return new int[] {x.about(machine, 0), x.about(machine, 1), x.about(machine, 2), x.about(machine, 3),
            x.about(machine, 4)};
    }

    private static void aboutOfANewMachine() {
        HutLift x = Scenes.hut(1);
        tells("a new MACHINE", ofMachine(x, 0), 2000, 0, 0, 0, 200);
        x.minute(120);
        x.machine(7, 8);
        tells("one made later", ofMachine(x, 1), 8, 0, 0, 0, 7);
    }

    private static void pilotOfRefuses() {
        BUSY.range("pilotOf(_, 0)", 0, 2, NOT_TOLD, (x, n) -> x.pilotOf(n, 0));
        BUSY.range("pilotOf(0, _)", 0, 2, NOT_TOLD, (x, n) -> x.pilotOf(0, n));
        DUE.is("no PILOT yet", new HutLift().pilotOf(0, 0), NOT_TOLD);
    }

    private static int[] ofPilot(HutLift x, int pilot) {
        return new int[] {x.pilotOf(pilot, 0), x.pilotOf(pilot, 1), x.pilotOf(pilot, 2)};
    }

    private static void pilotOfOneWhoMayFlyNoMore() {
        HutLift x = Scenes.hut(10);
        x.pilot(22, 120);
        x.pilot(0, 0);
        tells("a new PILOT", ofPilot(x, 1), 0, 0, 22);
        tells("one who may not fly", ofPilot(x, 2), 0, 0, 0);
        x.fly(0, 1, 1);
        tells("one who may fly no more", ofPilot(x, 1), 22, 142, 0);
    }

    private static void cargoRefuses() {
        BUSY.range("cargo(_, 0)", 0, 9, NOT_TOLD, (x, n) -> x.cargo(n, 0));
        BUSY.range("cargo(0, _)", 0, 5, NOT_TOLD, (x, n) -> x.cargo(0, n));
        DUE.is("no LOAD yet", Scenes.hut(1).cargo(0, 0), NOT_TOLD);
    }

    private static int[] ofLoad(HutLift x, int load) {
        return new int[] {x.cargo(load, 0), x.cargo(load, 1), x.cargo(load, 2), x.cargo(load, 3), x.cargo(load, 4),
            x.cargo(load, 5)};
    }

    private static void cargoInEachState() {
        HutLift x = Scenes.busy();
        tells("WAITS", ofLoad(x, Scenes.PLAIN), 0, -1, -1, -1, 0, 0);
        tells("HANGS", ofLoad(x, Scenes.HUNG), 1, Scenes.LADEN, -1, -1, 0, 0);
        tells("FLIES up", ofLoad(x, Scenes.UPWARD), 2, -1, 1, -1, 0, 38);
        tells("FLIES down", ofLoad(x, Scenes.DOWNWARD), 2, -1, 1, -1, 0, 14);
        tells("SHELVED, LATE", ofLoad(x, Scenes.BROUGHT), 3, -1, 0, 10, 1, 13);
        tells("SHELVED in the VALLEY", ofLoad(x, Scenes.FETCHED), 3, -1, 0, 22, 0, 9);
        x.off(Scenes.HUNG);
        tells("WAITS again", ofLoad(x, Scenes.HUNG), 0, -1, -1, -1, 0, 0);
    }

    private static void flightRefuses() {
        BUSY.range("flight(_, 0)", 0, 1, NOT_TOLD, (x, n) -> x.flight(n, 0));
        BUSY.range("flight(0, _)", 0, 8, NOT_TOLD, (x, n) -> x.flight(0, n));
        HutLift x = Scenes.hut(1);
        DUE.is("no FLIGHT yet", x.flight(0, 0), NOT_TOLD);
        x.fly(0, 0, 1);
        DUE.is("one", x.flight(0, 0), 0);
        DUE.is("no second", x.flight(1, 0), NOT_TOLD);
    }

    private static void liftRefuses() {
        BUSY.range("lift(_, 0, 0)", 0, 2, NOT_TOLD, (x, n) -> x.lift(n, 0, 0));
        BUSY.range("lift(0, _, 0)", 0, 3, NOT_TOLD, (x, n) -> x.lift(0, n, 0));
        BUSY.range("lift(0, 0, _)", 0, 11, NOT_TOLD, (x, n) -> x.lift(0, 0, n));
        DUE.is("no MACHINE yet", new HutLift().lift(0, 0, 0), NOT_TOLD);
    }

    private static void countRefuses() {
        BUSY.range("count(_)", 0, 9, HutLift.NONE, (x, n) -> x.count(n));
    }

    private static void countOfNothing() {
        HutLift x = new HutLift();
        for (int what = 0; what <= 9; what++) {
            DUE.is("count(" + what + ")", x.count(what), what == 0 ? 1 : 0);
        }
    }

    private static void tellingChangesNothing() {
        BUSY.changesNothing("about", 82, x -> x.about(Scenes.AWAY, 1));
        BUSY.changesNothing("pilotOf", 112, x -> x.pilotOf(Scenes.FLYING, 1));
        BUSY.changesNothing("cargo", 38, x -> x.cargo(Scenes.UPWARD, 5));
        BUSY.changesNothing("flight", 82, x -> x.flight(1, 5));
        BUSY.changesNothing("lift", 68, x -> x.lift(0, Scenes.HIGH, 0));
        BUSY.changesNothing("count", 40, x -> x.count(6));
        BUSY.changesNothing("may", 0, x -> x.may(Scenes.LADEN, Scenes.RESTED, Scenes.NEAR));
        BUSY.changesNothing("pack", 2, x -> x.pack(Scenes.NEAR, 400));
        BUSY.changesNothing("ordered", Scenes.HIGH, x -> x.ordered(1));
    }

    /** LOADS (KIND and WEIGHT), all of which go with a flight of 22 minutes that begins at 0. */
    private static HutLift flown(int[]... loads) {
        HutLift x = Scenes.hut(10);
        for (int i = 0; i < loads.length; i++) {
            x.load(10000 * loads[i][0] + 101, loads[i][1], 0, 720);
        }
        for (int i = loads.length - 1; i >= 0; i--) {
            x.hang(0, i);
        }
        DUE.is("it flies", x.fly(0, 0, 1), 0);
        return x;
    }

    private static int[] up(int weight) {
        return new int[] {0, weight};
    }

    private static int[] down(int weight) {
        return new int[] {4, weight};
    }

    private static void costs(String what, HutLift x, int... want) {
        for (int i = 0; i < want.length; i++) {
            DUE.is(what + ": COST of " + i, x.cargo(i, 5), want[i]);
        }
    }

    private static void costIsZeroAhead() {
        HutLift x = Scenes.hut(10);
        x.load(101, 5, 0, 720);
        costs("WAITS", x, 0);
        x.hang(0, 0);
        costs("HANGS", x, 0);
        x.fly(0, 0, 1);
        costs("FLIES", x, 22);
        x.minute(10);
        costs("SHELVED", x, 22);
        Due.pass(x, 710);
        costs("at the end", x, 22);
    }

    private static void costWithoutARest() {
        costs("10 and 12 of 22", flown(up(10), up(12)), 10, 12);
        costs("halves", flown(up(7), down(7)), 11, 11);
    }

    private static void costOfTheRestToTheLeast() {
        costs("three alike", flown(up(5), up(5), up(5)), 8, 7, 7);
        costs("the heaviest is the least", flown(up(98), up(1), up(1)), 22, 0, 0);
        costs("the lightest is the least", flown(up(1), up(20), up(20)), 2, 10, 10);
        costs("a rider is not the least", flown(up(1), down(20), up(20)), 2, 10, 10);
    }

    private static void costOfTheRestToTheLeastThatRides() {
        costs("a rider is the least", flown(down(5), up(5), up(5)), 8, 7, 7);
        costs("two riders", flown(down(5), up(5), down(5)), 8, 7, 7);
        costs("riders alone", flown(down(5), down(5), down(5)), 8, 7, 7);
        HutLift x = Scenes.hut(10);
        x.load(101, 5, 0, 720);
        x.load(101, 5, 0, 720);
        x.load(40101, 5, 0, 720);
        x.load(101, 5, 0, 720);
        x.hang(0, 3);
        x.hang(0, 1);
        x.fly(0, 0, 1);
        costs("the least that flew, not the least that there is", x, 0, 8, 7, 7);
    }

    /** A flight of 4 minutes with nine alike: none gets a whole one. */
    private static void costThatIsAllRest() {
        HutLift x = Scenes.hut(1);
        for (int i = 0; i < 9; i++) {
            x.load(101, 9, 0, 720);
            x.hang(0, i);
        }
        x.fly(0, 0, 1);
        costs("nine alike", x, 4, 0, 0, 0, 0, 0, 0, 0, 0);
    }

    private static void costOfOneAlone() {
        costs("the lightest", flown(up(1)), 22);
        costs("the heaviest", flown(up(99)), 22);
        costs("a rider", flown(down(1)), 22);
        HutLift x = Scenes.hut(60);
        x.load(10101, 99, 0, 720);
        x.hang(0, 0);
        x.fly(0, 0, 1);
        costs("a LONG one on the longest way", x, 242);
    }

    private static void costOfNone() {
        HutLift x = Scenes.hut(10);
        x.load(101, 5, 0, 720);
        x.load(40101, 5, 720, 720);
        DUE.is("a flight with nothing", x.fly(0, 0, 1), 0);
        DUE.is("none hung", x.flight(0, 7), 0);
        DUE.is("none rode", x.flight(0, 8), 0);
        costs("it costs none", x, 0, 0);
    }

    private static void costIsAllOfTheMinutes() {
        for (int weight = 1; weight <= 99; weight += 7) {
            HutLift x = flown(up(weight), up(3), down(100 - weight), up(11), down(1));
            int sum = 0;
            for (int i = 0; i < 5; i++) {
                sum += x.cargo(i, 5);
            }
            DUE.is("all COST, " + weight, sum, 22);
        }
    }
}
