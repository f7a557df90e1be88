/** The edges that the document names of promises 14 to 16: a FLIGHT and its RIDERS, what is SHELVED, FUEL and MINUTE. */
public final class FlightEdgesTest {
    private static final Due DUE = new Due("FlightEdgesTest");
    private static final Twins BUSY = new Twins(DUE, Scenes::busy);
    private static final int NONE = HutLift.NONE, FULL = HutLift.FULL, STATE = HutLift.STATE;
    private static final int WAITS = 0, FLIES = 2, SHELVED = 3;

    public static void main(String[] args) {
        flightsAre0To199();
        answersOfFlyInTheirOrder();
        beginChangesWhatItMust();
        wayIsDoubledByLong();
        ridersAreReadyBySet();
        ridersAreReadyByTheSetOfALongOne();
        ridersAreWithinLift();
        ridersAreWithinLiftOfTheHourOfSet();
        ridersAreWithinRoom();
        ridersGoByNumbers();
        ridersWaitAtThatPlace();
        whatHangsAndRidersAreWeighedApart();
        shelvedAtSet();
        shelvedAtBack();
        shelvedInOneGo();
        lateIsBehindDue();
        fuelRefuses();
        fuelBecomesTank();
        minuteIs1To120();
        minuteIs720AtMost();
        DUE.end();
    }

    private static HutLift afterFlights(int n) {
        HutLift x = new HutLift();
        x.place(0, 1);
        for (int i = 0; i < 4; i++) {
            x.machine(10, 2000);
            x.pilot(720, 0);
        }
        for (int i = 0; i < n; i++) {
            x.fly(i % 4, i % 4, 1);
            if (i % 4 == 3) {
                x.minute(4);
            }
        }
        return x;
    }

    private static void flightsAre0To199() {
        DUE.is("FLIGHT 0", afterFlights(0).fly(0, 0, 1), 0);
        DUE.is("FLIGHT 198", afterFlights(198).fly(2, 2, 1), 198);
        DUE.is("FLIGHT 199", afterFlights(199).fly(3, 3, 1), 199);
        Twins full = new Twins(DUE, () -> afterFlights(200));
        full.changesNothing("a FLIGHT 200", FULL, x -> x.fly(0, 0, 1));
        full.changesNothing("it may be all the same", 0, x -> x.may(0, 0, 1));
        HutLift x = afterFlights(200);
        DUE.is("FLIGHTS", x.count(5), 200);
        DUE.is("FLIGHT 199 begins", x.flight(199, 3), 196);
        DUE.is("there is no FLIGHT 200", x.flight(200, 3), -9);
    }

    private static HutLift fullAndHung() {
        HutLift x = afterFlights(200);
        x.load(101, 1, 0, 0);
        x.hang(0, 0);
        return x;
    }

    private static void answersOfFlyInTheirOrder() {
        Twins full = new Twins(DUE, () -> afterFlights(200));
        full.changesNothing("NONE is ahead of FULL", NONE, x -> x.fly(0, 0, 0));
        Twins hung = new Twins(DUE, FlightEdgesTest::fullAndHung);
        hung.changesNothing("FULL with something hanging", FULL, x -> x.fly(0, 0, 1));
        HutLift x = afterFlights(199);
        x.place(0, 1);
        x.load(201, 1, 0, 0);
        x.hang(3, 0);
        DUE.is("the last of 200", x.fly(3, 3, 2), 199);
        DUE.is("WHY is ahead of FULL", x.fly(3, 3, 2), -11);
        HutLift y = fullAndHung();
        y.place(0, 1);
        DUE.is("another WHY is ahead of FULL", y.fly(0, 0, 2), -13);
        Due.rule(y, "0");
        DUE.is("the last WHY is ahead of FULL", y.fly(0, 0, 1), -20);
    }

    private static void beginChangesWhatItMust() {
        HutLift x = Scenes.busy();
        DUE.is("a flight", x.fly(Scenes.LADEN, Scenes.RESTED, Scenes.NEAR), 2);
        int[] told = {Scenes.LADEN, Scenes.RESTED, Scenes.NEAR, 40, 50, 62, 10 * 3 + 10 * 2, 1, 0};
        for (int what = 0; what < told.length; what++) {
            DUE.is("flight(2, " + what + ")", x.flight(2, what), told[what]);
        }
        DUE.is("FUEL is BURNT less", x.about(Scenes.LADEN, 0), 900 - 50);
        DUE.is("FREE is BACK", x.about(Scenes.LADEN, 1), 62);
        DUE.is("nothing hangs", x.about(Scenes.LADEN, 2), 0);
        DUE.is("no WEIGHT hangs", x.about(Scenes.LADEN, 3), 0);
        DUE.is("FLOWN", x.pilotOf(Scenes.RESTED, 0), 22 + 22);
        DUE.is("FREE is BACK and REST", x.pilotOf(Scenes.RESTED, 1), 62 + 15);
        DUE.is("it FLIES", x.cargo(Scenes.HUNG, 0), FLIES);
        DUE.is("the others are as they were", x.cargo(Scenes.PLAIN, 0), WAITS);
        DUE.is("the other MACHINE too", x.about(Scenes.AWAY, 1), 82);
        DUE.is("the other PILOT too", x.pilotOf(Scenes.FLYING, 1), 112);
    }

    private static void wayIsDoubledByLong() {
        for (int kind = 0; kind <= 3; kind++) {
            HutLift x = Scenes.hut(60);
            x.load(10000 * kind + 101, 20, 0, 0);
            x.hang(0, 0);
            int way = kind == 1 ? 120 : 60;
            DUE.is("a flight with KIND " + kind, x.fly(0, 0, 1), 0);
            DUE.is("its SET", x.flight(0, 4), way);
            DUE.is("its BACK", x.flight(0, 5), 2 * way + 2);
            DUE.is("its BURNT", x.flight(0, 6), way * 3 + way * 2);
            DUE.is("FLOWN", x.pilotOf(0, 0), 2 * way + 2);
        }
    }

    /** How many ride with a flight that begins now, the LOADS being DOWN ones (ROOM, WEIGHT, READY). */
    private static int ridersOf(HutLift x, int[]... loads) {
        for (int[] load : loads) {
            x.load(40100 + load[0], load[1], load[2], 720);
        }
        x.fly(0, 0, 1);
        return x.flight(0, 8);
    }

    private static int[] down(int room, int weight, int ready) {
        return new int[] {room, weight, ready};
    }

    private static void ridersAreReadyBySet() {
        DUE.is("READY a minute ahead of SET", ridersOf(Scenes.hutAt(10, 5), down(1, 1, 14)), 1);
        DUE.is("READY at SET", ridersOf(Scenes.hutAt(10, 5), down(1, 1, 15)), 1);
        DUE.is("READY a minute behind SET", ridersOf(Scenes.hutAt(10, 5), down(1, 1, 16)), 0);
        DUE.is("READY at BACK", ridersOf(Scenes.hutAt(10, 5), down(1, 1, 27)), 0);
    }

    private static void ridersAreReadyByTheSetOfALongOne() {
        for (int ready : new int[] {19, 20, 21}) {
            HutLift x = Scenes.hut(10);
            x.load(10101, 1, 0, 0);
            x.hang(0, 0);
            DUE.is("LONG, READY at " + ready, ridersOf(x, down(1, 1, ready)), ready <= 20 ? 1 : 0);
        }
    }

    /** A machine that lifts 60 up there. */
    private static HutLift liftOf60() {
        HutLift x = new HutLift();
        x.place(5, 10);
        x.machine(80, 2000);
        x.pilot(720, 0);
        return x;
    }

    private static void ridersAreWithinLift() {
        DUE.is("59 of 60", ridersOf(liftOf60(), down(1, 59, 0)), 1);
        DUE.is("60 of 60", ridersOf(liftOf60(), down(1, 60, 0)), 1);
        DUE.is("61 of 60", ridersOf(liftOf60(), down(1, 61, 0)), 0);
        DUE.is("30 and 30", ridersOf(liftOf60(), down(1, 30, 0), down(1, 30, 0)), 2);
        DUE.is("30 and 31", ridersOf(liftOf60(), down(1, 30, 0), down(1, 31, 0)), 1);
        DUE.is("30, 31 and 30", ridersOf(liftOf60(), down(1, 30, 0), down(1, 31, 0), down(1, 30, 0)), 2);
        DUE.is("61 and 60", ridersOf(liftOf60(), down(1, 61, 0), down(1, 60, 0)), 1);
        HutLift x = new HutLift();
        x.place(9, 1);
        x.machine(36, 2000);
        x.pilot(720, 0);
        DUE.is("1 on a LIFT of 0", ridersOf(x, down(1, 1, 0)), 0);
    }

    private static void ridersAreWithinLiftOfTheHourOfSet() {
        for (int now : new int[] {49, 50, 109, 110}) {
            HutLift x = liftOf60();
            x.hour(1, 0, 1, 0);
            Due.pass(x, now);
            boolean warm = now + 10 >= 60 && now + 10 < 120;
            DUE.is("60 of 60, less WARMTH, SET at " + (now + 10), ridersOf(x, down(1, 60, 0)), warm ? 0 : 1);
            HutLift y = liftOf60();
            y.hour(1, 0, 1, 0);
            Due.pass(y, now);
            DUE.is("59 of 60, less WARMTH, SET at " + (now + 10), ridersOf(y, down(1, 59, 0)), 1);
        }
    }

    private static void ridersAreWithinRoom() {
        DUE.is("ROOM 9", ridersOf(liftOf60(), down(9, 1, 0)), 1);
        DUE.is("ROOM 4 and 4", ridersOf(liftOf60(), down(4, 1, 0), down(4, 1, 0)), 2);
        DUE.is("ROOM 4 and 5", ridersOf(liftOf60(), down(4, 1, 0), down(5, 1, 0)), 2);
        DUE.is("ROOM 5 and 5", ridersOf(liftOf60(), down(5, 1, 0), down(5, 1, 0)), 1);
        DUE.is("ROOM 5, 5 and 4", ridersOf(liftOf60(), down(5, 1, 0), down(5, 1, 0), down(4, 1, 0)), 2);
        HutLift x = liftOf60();
        for (int i = 0; i < 10; i++) {
            x.load(40101, 1, 0, 720);
        }
        x.fly(0, 0, 1);
        DUE.is("nine of ten", x.flight(0, 8), 9);
        DUE.is("the ninth rides", x.cargo(8, 0), FLIES);
        DUE.is("the tenth waits", x.cargo(9, 0), WAITS);
    }

    private static void ridersGoByNumbers() {
        HutLift x = liftOf60();
        int riders = ridersOf(x, down(1, 40, 0), down(1, 21, 0), down(9, 20, 0), down(8, 20, 0), down(1, 1, 0));
        DUE.is("two ride", riders, 2);
        int[] states = {FLIES, WAITS, WAITS, FLIES, WAITS};
        for (int i = 0; i < states.length; i++) {
            DUE.is("STATE of " + i, x.cargo(i, 0), states[i]);
        }
    }

    private static void ridersWaitAtThatPlace() {
        HutLift x = Scenes.hut(10);
        x.place(0, 10);
        x.machine(200, 2000);
        x.pilot(720, 0);
        x.load(40201, 1, 0, 720);
        x.load(101, 1, 0, 720);
        x.load(40101, 1, 0, 720);
        x.fly(0, 0, 1);
        DUE.is("one rides", x.flight(0, 8), 1);
        DUE.is("not that of another PLACE", x.cargo(0, 0), WAITS);
        DUE.is("not one that goes up", x.cargo(1, 0), WAITS);
        DUE.is("that of the PLACE", x.cargo(2, 0), FLIES);
        x.fly(1, 1, 1);
        DUE.is("one that FLIES rides with no other", x.flight(1, 8), 0);
        x.minute(22);
        x.fly(0, 0, 1);
        DUE.is("nor one that is SHELVED", x.flight(2, 8), 0);
        DUE.is("it was taken by FLIGHT 0", x.cargo(2, 2), 0);
    }

    private static void whatHangsAndRidersAreWeighedApart() {
        HutLift x = liftOf60();
        x.load(109, 60, 0, 720);
        x.hang(0, 0);
        DUE.is("60 up and 60 down, ROOM 9 each", ridersOf(x, down(9, 60, 0)), 1);
        DUE.is("BURNT", x.flight(0, 6), 10 * 5 + 10 * 5);
    }

    private static HutLift upAndDown(int since) {
        HutLift x = Scenes.hutAt(10, 100);
        x.load(101, 1, 0, 720);
        x.load(40101, 1, 0, 720);
        x.hang(0, 0);
        x.fly(0, 0, 1);
        Due.pass(x, since);
        return x;
    }

    private static void shelved(int since, int up, int upAt, int down, int downAt) {
        HutLift x = upAndDown(since);
        DUE.is("STATE of what hung at " + since, x.cargo(0, 0), up);
        DUE.is("SHELVED at " + since, x.cargo(0, 3), upAt);
        DUE.is("STATE of the rider at " + since, x.cargo(1, 0), down);
        DUE.is("SHELVED at " + since, x.cargo(1, 3), downAt);
        DUE.is("SHELVED in all at " + since, x.count(7), (up == SHELVED ? 1 : 0) + (down == SHELVED ? 1 : 0));
    }

    private static void shelvedAtSet() {
        shelved(0, FLIES, -1, FLIES, -1);
        shelved(9, FLIES, -1, FLIES, -1);
        shelved(10, SHELVED, 110, FLIES, -1);
        shelved(11, SHELVED, 110, FLIES, -1);
    }

    private static void shelvedAtBack() {
        shelved(21, SHELVED, 110, FLIES, -1);
        shelved(22, SHELVED, 110, SHELVED, 122);
        shelved(23, SHELVED, 110, SHELVED, 122);
    }

    /** A step over SET and BACK shelves at these minutes, not at the one to which it goes. */
    private static void shelvedInOneGo() {
        HutLift x = upAndDown(0);
        DUE.is("120 minutes", x.minute(120), 220);
        DUE.is("what hung", x.cargo(0, 3), 110);
        DUE.is("the rider", x.cargo(1, 3), 122);
        HutLift y = Scenes.hutAt(10, 698);
        y.load(40101, 1, 0, 720);
        y.fly(0, 0, 1);
        y.minute(21);
        DUE.is("a minute ahead of the end", y.cargo(0, 0), FLIES);
        y.minute(1);
        DUE.is("at the end", y.cargo(0, 3), 720);
    }

    private static void lateIsBehindDue() {
        for (int ahead = -1; ahead <= 1; ahead++) {
            HutLift x = Scenes.hutAt(10, 100);
            x.load(101, 1, 0, 110 + ahead);
            x.load(40101, 1, 0, 122 + ahead);
            x.hang(0, 0);
            x.fly(0, 0, 1);
            int late = ahead < 0 ? 1 : 0;
            DUE.is("none is LATE in the air", x.count(8), 0);
            x.minute(11);
            DUE.is("LATE at SET, DUE " + (110 + ahead), x.cargo(0, 4), late);
            DUE.is("LATE in all", x.count(8), late);
            DUE.is("the rider is not LATE in the air", x.cargo(1, 4), 0);
            x.minute(50);
            DUE.is("LATE at BACK, DUE " + (122 + ahead), x.cargo(1, 4), late);
            DUE.is("LATE in all", x.count(8), 2 * late);
        }
        HutLift x = Scenes.hut(10);
        x.load(101, 1, 0, 0);
        Due.pass(x, 720);
        DUE.is("what WAITS behind DUE is not LATE", x.cargo(0, 4), 0);
        DUE.is("LATE in all", x.count(8), 0);
    }

    private static HutLift burning(int since) {
        HutLift x = Scenes.hut(10);
        x.fly(0, 0, 1);
        Due.pass(x, since);
        return x;
    }

    private static void fuelRefuses() {
        BUSY.range("fuel(_)", 0, 2, NONE, (x, n) -> x.fuel(n));
        BUSY.changesNothing("a MACHINE that is away", STATE, x -> x.fuel(Scenes.AWAY));
        new Twins(DUE, () -> burning(0)).changesNothing("at its begin", STATE, x -> x.fuel(0));
        new Twins(DUE, () -> burning(21)).changesNothing("a minute ahead of BACK", STATE, x -> x.fuel(0));
        DUE.is("at BACK", burning(22).fuel(0), 40);
        DUE.is("a minute behind BACK", burning(23).fuel(0), 40);
        DUE.is("no MACHINE yet", new HutLift().fuel(0), NONE);
    }

    private static void fuelBecomesTank() {
        BUSY.changesNothing("a full one", 0, x -> x.fuel(Scenes.LADEN));
        HutLift x = burning(22);
        DUE.is("FUEL", x.about(0, 0), 1960);
        DUE.is("how much came", x.fuel(0), 40);
        DUE.is("FUEL is TANK", x.about(0, 0), 2000);
        DUE.is("no more comes", x.fuel(0), 0);
        DUE.is("FUEL is TANK", x.about(0, 0), 2000);
    }

    private static void minuteIs1To120() {
        BUSY.range("minute(_)", 1, 120, NONE, (x, n) -> x.minute(n));
        for (int n : new int[] {1, 2, 119, 120}) {
            HutLift x = new HutLift();
            DUE.is("minute(" + n + ")", x.minute(n), n);
            DUE.is("MINUTE", x.count(6), n);
        }
    }

    private static void minuteIs720AtMost() {
        DUE.is("to 719", Scenes.hutAt(1, 718).minute(1), 719);
        DUE.is("to 720", Scenes.hutAt(1, 719).minute(1), 720);
        DUE.is("to 720 by 120", Scenes.hutAt(1, 600).minute(120), 720);
        new Twins(DUE, () -> Scenes.hutAt(1, 720)).changesNothing("to 721", NONE, x -> x.minute(1));
        new Twins(DUE, () -> Scenes.hutAt(1, 719)).changesNothing("to 721 by 2", NONE, x -> x.minute(2));
        new Twins(DUE, () -> Scenes.hutAt(1, 601)).changesNothing("to 721 by 120", NONE, x -> x.minute(120));
        new Twins(DUE, () -> Scenes.hutAt(1, 700)).changesNothing("to 820", NONE, x -> x.minute(120));
        new Twins(DUE, () -> Scenes.hutAt(1, 720)).changesNothing("to 720 by 0", NONE, x -> x.minute(0));
        DUE.is("to 720 by 119", Scenes.hutAt(1, 601).minute(119), 720);
    }
}
