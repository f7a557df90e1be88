/** The edges that the document names of promises 1 to 6: what may be made, how many of each, and the HOURS. */
public final class MakingEdgesTest {
    private static final Due DUE = new Due("MakingEdgesTest");
    private static final Twins BUSY = new Twins(DUE, Scenes::busy);
    private static final int NONE = HutLift.NONE, FULL = HutLift.FULL;

    public static void main(String[] args) {
        busySceneIsAsSaid();
        newOfficeHasTheValleyAlone();
        newOfficeIsAtMinute0();
        heightIs0To9();
        wayIs1To60();
        placesAre0To11();
        baseIs1To200();
        tankIs1To2000();
        machinesAre0To3();
        mostIs0To720();
        restIs0To120();
        pilotsAre0To5();
        kindIs0To4();
        placeOfALoadIsNot0();
        roomIs1To9();
        weightIs1To99();
        readyIs0To720();
        dueIs0To720();
        loadsAre0To79();
        hourIs0To11();
        weatherIsMinus1To9();
        weatherAtFirst();
        weatherNotKnown();
        hoursHave60Minutes();
        liftIs0AtLeast();
        answersUpTo512Calls();
        DUE.end();
    }

    private static void busySceneIsAsSaid() {
        HutLift x = Scenes.busy();
        int[] states = {3, 3, 2, 1, 0, 0, 0, 2, 0, 0};
        for (int load = 0; load < states.length; load++) {
            DUE.is("busy: STATE of " + load, x.cargo(load, 0), states[load]);
        }
        int[] counts = {4, 3, 3, 10, 2, 2, 40, 2, 1, 4};
        for (int what = 0; what < counts.length; what++) {
            DUE.is("busy: count(" + what + ")", x.count(what), counts[what]);
        }
        DUE.is("busy: an order was found", x.ordered(2), Scenes.HIGH);
        DUE.is("busy: machine is away", x.about(Scenes.AWAY, 1), 82);
        DUE.is("busy: pilot is away", x.pilotOf(Scenes.FLYING, 1), 112);
        DUE.is("busy: a flight may be", x.may(Scenes.LADEN, Scenes.RESTED, Scenes.NEAR), 0);
        DUE.is("busy: THE LIST has two", x.list(1), 3);
        DUE.is("busy: the TAPE has no FAULT", x.rule(), 2);
    }

    private static void newOfficeHasTheValleyAlone() {
        HutLift x = new HutLift();
        DUE.is("one PLACE", x.count(0), 1);
        DUE.is("nowhere to fly a LOAD", x.load(101, 1, 0, 0), NONE);
        DUE.is("not even to the VALLEY", x.load(1, 1, 0, 0), NONE);
        DUE.is("nowhere to list", x.list(1), NONE);
        DUE.is("nothing to pack", x.pack(1, 9), NONE);
        x.machine(200, 1);
        DUE.is("the VALLEY's HEIGHT is 0", x.lift(0, 0, 0), 200);
        DUE.is("no PLACE 1", x.lift(0, 1, 0), -9);
        DUE.is("the next PLACE is 1", x.place(0, 1), 1);
        DUE.is("and is there", x.lift(0, 1, 0), 200);
        DUE.is("no PLACE 2", x.lift(0, 2, 0), -9);
    }

    private static void newOfficeIsAtMinute0() {
        HutLift x = new HutLift();
        DUE.is("MINUTE is 0", x.count(6), 0);
        x.place(0, 1);
        x.load(101, 1, 0, 0);
        x.load(101, 1, 1, 0);
        x.machine(9, 99);
        x.pilot(9, 0);
        Due.rule(x, "h");
        DUE.is("in HOUR 0", x.says(0, 0, 0, 1), 0);
        DUE.is("READY at 0", x.hang(0, 0), 1);
        DUE.is("not READY at 1", x.hang(0, 1), HutLift.STATE);
    }

    private static void heightIs0To9() {
        BUSY.range("place(_, 5)", 0, 9, NONE, (x, n) -> x.place(n, 5));
        for (int height = 0; height <= 9; height++) {
            HutLift x = new HutLift();
            x.place(height, 1);
            x.machine(100, 100);
            DUE.is("LIFT at HEIGHT " + height, x.lift(0, 1, 0), 100 - 4 * height);
            x.pilot(9, 0);
            Due.rule(x, "e");
            DUE.is("e of HEIGHT " + height, x.says(0, 0, 0, 1), height);
        }
    }

    private static void wayIs1To60() {
        BUSY.range("place(5, _)", 1, 60, NONE, (x, n) -> x.place(5, n));
        for (int way : new int[] {1, 2, 59, 60}) {
            HutLift x = Scenes.hut(way);
            DUE.is("a flight of WAY " + way, x.fly(0, 0, 1), 0);
            DUE.is("its SET", x.flight(0, 4), way);
            DUE.is("its BACK", x.flight(0, 5), 2 * way + 2);
        }
    }

    private static HutLift officeWithPlaces(int last) {
        HutLift x = new HutLift();
        x.machine(100, 500);
        x.pilot(720, 0);
        for (int i = 1; i <= last; i++) {
            x.place(i % 10, i);
        }
        return x;
    }

    private static void placesAre0To11() {
        DUE.is("PLACE 10", officeWithPlaces(9).place(0, 1), 10);
        DUE.is("PLACE 11", officeWithPlaces(10).place(0, 1), 11);
        Twins full = new Twins(DUE, () -> officeWithPlaces(11));
        full.changesNothing("a PLACE 12", FULL, x -> x.place(0, 1));
        full.changesNothing("NONE is ahead of FULL, height", NONE, x -> x.place(10, 1));
        full.changesNothing("NONE is ahead of FULL, way", NONE, x -> x.place(0, 61));
        HutLift x = officeWithPlaces(11);
        DUE.is("PLACES", x.count(0), 12);
        DUE.is("PLACE 11 can be flown to", x.may(0, 0, 11), 0);
        DUE.is("PLACE 12 cannot", x.may(0, 0, 12), NONE);
        DUE.is("LIFT at 11", x.lift(0, 11, 0), 96);
        DUE.is("LIFT at 12", x.lift(0, 12, 0), -9);
        DUE.is("a LOAD for 11", x.load(1101, 1, 0, 0), 0);
        DUE.is("a LOAD for 12", x.load(1201, 1, 0, 0), NONE);
        DUE.is("the LOAD goes to 11", x.pack(11, 9), 1);
    }

    private static void baseIs1To200() {
        Twins none = new Twins(DUE, HutLift::new);
        none.range("machine(_, 5)", 1, 200, NONE, (x, n) -> x.machine(n, 5));
        BUSY.range("machine(_, 5) as the fourth", 1, 200, NONE, (x, n) -> x.machine(n, 5));
        for (int base : new int[] {1, 2, 199, 200}) {
            HutLift x = new HutLift();
            x.machine(base, 5);
            DUE.is("LIFT of BASE " + base, x.about(0, 4), base);
        }
    }

    private static void tankIs1To2000() {
        BUSY.range("machine(5, _)", 1, 2000, NONE, (x, n) -> x.machine(5, n));
        for (int tank : new int[] {1, 2, 1999, 2000}) {
            HutLift x = new HutLift();
            x.machine(5, tank);
            DUE.is("FUEL at first is TANK " + tank, x.about(0, 0), tank);
            DUE.is("so none comes", x.fuel(0), 0);
            DUE.is("FREE is 0 at first", x.about(0, 1), 0);
        }
    }

    private static HutLift officeWithMachines(int n) {
        HutLift x = Scenes.hut(5);
        for (int i = 1; i < n; i++) {
            x.machine(50 + i, 100 + i);
        }
        return x;
    }

    private static void machinesAre0To3() {
        DUE.is("MACHINE 2", officeWithMachines(2).machine(1, 1), 2);
        DUE.is("MACHINE 3", officeWithMachines(3).machine(1, 1), 3);
        Twins full = new Twins(DUE, () -> officeWithMachines(4));
        full.changesNothing("a MACHINE 4", FULL, x -> x.machine(1, 1));
        full.changesNothing("NONE is ahead of FULL, base", NONE, x -> x.machine(0, 1));
        full.changesNothing("NONE is ahead of FULL, tank", NONE, x -> x.machine(1, 2001));
        HutLift x = officeWithMachines(4);
        DUE.is("MACHINES", x.count(1), 4);
        DUE.is("MACHINE 3 can fly", x.may(3, 0, 1), 0);
        DUE.is("MACHINE 4 is none", x.may(4, 0, 1), NONE);
    }

    private static void mostIs0To720() {
        BUSY.range("pilot(_, 5)", 0, 720, NONE, (x, n) -> x.pilot(n, 5));
        for (int most : new int[] {0, 1, 719, 720}) {
            HutLift x = new HutLift();
            x.pilot(most, 5);
            DUE.is("MOST less FLOWN of MOST " + most, x.pilotOf(0, 2), most);
            DUE.is("FLOWN is 0 at first", x.pilotOf(0, 0), 0);
            DUE.is("FREE is 0 at first", x.pilotOf(0, 1), 0);
        }
    }

    private static void restIs0To120() {
        BUSY.range("pilot(5, _)", 0, 120, NONE, (x, n) -> x.pilot(5, n));
        for (int rest : new int[] {0, 1, 119, 120}) {
            HutLift x = Scenes.hut(1);
            x.pilot(9, rest);
            x.fly(0, 1, 1);
            DUE.is("FREE behind a REST of " + rest, x.pilotOf(1, 1), 4 + rest);
        }
    }

    private static HutLift officeWithPilots(int n) {
        HutLift x = Scenes.hut(5);
        for (int i = 1; i < n; i++) {
            x.pilot(100 + i, i);
        }
        return x;
    }

    private static void pilotsAre0To5() {
        DUE.is("PILOT 4", officeWithPilots(4).pilot(0, 0), 4);
        DUE.is("PILOT 5", officeWithPilots(5).pilot(0, 0), 5);
        Twins full = new Twins(DUE, () -> officeWithPilots(6));
        full.changesNothing("a PILOT 6", FULL, x -> x.pilot(0, 0));
        full.changesNothing("NONE is ahead of FULL, most", NONE, x -> x.pilot(721, 0));
        full.changesNothing("NONE is ahead of FULL, rest", NONE, x -> x.pilot(0, 121));
        HutLift x = officeWithPilots(6);
        DUE.is("PILOTS", x.count(2), 6);
        DUE.is("PILOT 5 can fly", x.may(0, 5, 1), 0);
        DUE.is("PILOT 6 is none", x.may(0, 6, 1), NONE);
    }

    private static void kindIs0To4() {
        BUSY.edges("load of KIND _", 0, 4, NONE, (x, n) -> x.load(10000 * n + 101, 5, 0, 0));
        for (int what : new int[] {-1, -101, -9899, 60101, 90101, 100101, 1000101}) {
            BUSY.changesNothing("load(" + what + ", ..)", NONE, x -> x.load(what, 5, 0, 0));
        }
        for (int kind = 0; kind <= 4; kind++) {
            HutLift x = Scenes.hut(1);
            x.load(10000 * kind + 101, 5, 0, 0);
            Due.rule(x, "k");
            DUE.is("KIND " + kind + " can hang", x.hang(0, 0), kind == 4 ? HutLift.STATE : 1);
            DUE.is("as what it is", x.says(0, 0, 0, 1), kind % 4);
        }
    }

    private static void placeOfALoadIsNot0() {
        BUSY.edges("load for PLACE _", 1, 3, NONE, (x, n) -> x.load(100 * n + 1, 5, 0, 0));
        for (int kind = 0; kind <= 4; kind++) {
            int valley = 10000 * kind + 1;
            BUSY.changesNothing("load(" + valley + ", ..)", NONE, x -> x.load(valley, 5, 0, 0));
            int behind = 10000 * kind + 401;
            BUSY.changesNothing("load(" + behind + ", ..)", NONE, x -> x.load(behind, 5, 0, 0));
            int last = 10000 * kind + 9901;
            BUSY.changesNothing("load(" + last + ", ..)", NONE, x -> x.load(last, 5, 0, 0));
        }
    }

    private static void roomIs1To9() {
        BUSY.edges("load with ROOM _", 1, 9, NONE, (x, n) -> x.load(100 + n, 5, 0, 0));
        BUSY.changesNothing("ROOM 99", NONE, x -> x.load(199, 5, 0, 0));
        for (int room = 1; room <= 9; room++) {
            HutLift x = Scenes.hut(1);
            x.load(100 + room, 1, 0, 0);
            x.load(100 + 9 - room + 1, 1, 0, 0);
            x.load(100 + Math.max(1, 9 - room), 1, 0, 0);
            x.hang(0, 0);
            DUE.is("one more than is left beside ROOM " + room, x.hang(0, 1), HutLift.STATE);
            DUE.is("what is left beside ROOM " + room, x.hang(0, 2), room == 9 ? HutLift.STATE : 2);
        }
    }

    private static void weightIs1To99() {
        BUSY.range("load(101, _, 0, 0)", 1, 99, NONE, (x, n) -> x.load(101, n, 0, 0));
        for (int weight : new int[] {1, 2, 98, 99}) {
            HutLift x = Scenes.hut(1);
            x.load(101, weight, 0, 0);
            x.hang(0, 0);
            DUE.is("WEIGHT " + weight, x.about(0, 3), weight);
        }
    }

    private static void readyIs0To720() {
        BUSY.range("load(101, 1, _, 0)", 0, 720, NONE, (x, n) -> x.load(101, 1, n, 0));
        for (int ready : new int[] {0, 1, 719, 720}) {
            HutLift x = Scenes.hutAt(1, Math.max(0, ready - 1));
            x.load(101, 1, ready, 0);
            DUE.is("ahead of READY " + ready, x.hang(0, 0), ready == 0 ? 1 : HutLift.STATE);
            x.minute(1);
            DUE.is("at READY " + ready, x.hang(0, 0), ready == 0 ? HutLift.STATE : 1);
        }
    }

    private static void dueIs0To720() {
        BUSY.range("load(101, 1, 0, _)", 0, 720, NONE, (x, n) -> x.load(101, 1, 0, n));
        for (int due : new int[] {0, 1, 719, 720}) {
            HutLift x = Scenes.hutAt(1, 717 - 1);
            x.load(40101, 1, 0, due);
            x.fly(0, 0, 1);
            x.minute(4);
            DUE.is("SHELVED", x.cargo(0, 3), 720);
            DUE.is("LATE at 720, DUE " + due, x.cargo(0, 4), due < 720 ? 1 : 0);
        }
    }

    private static HutLift officeWithLoads(int n) {
        HutLift x = Scenes.hut(5);
        for (int i = 0; i < n; i++) {
            x.load(101 + i % 9, 1 + i, i, i);
        }
        return x;
    }

    private static void loadsAre0To79() {
        DUE.is("LOAD 78", officeWithLoads(78).load(101, 1, 0, 0), 78);
        DUE.is("LOAD 79", officeWithLoads(79).load(101, 1, 0, 0), 79);
        Twins full = new Twins(DUE, () -> officeWithLoads(80));
        full.changesNothing("a LOAD 80", FULL, x -> x.load(101, 1, 0, 0));
        full.changesNothing("NONE is ahead of FULL, what", NONE, x -> x.load(1, 1, 0, 0));
        full.changesNothing("NONE is ahead of FULL, weight", NONE, x -> x.load(101, 0, 0, 0));
        full.changesNothing("NONE is ahead of FULL, ready", NONE, x -> x.load(101, 1, 721, 0));
        full.changesNothing("NONE is ahead of FULL, due", NONE, x -> x.load(101, 1, 0, -1));
        HutLift x = officeWithLoads(80);
        DUE.is("LOADS", x.count(3), 80);
        DUE.is("LOAD 79 waits", x.cargo(79, 0), 0);
        DUE.is("LOAD 80 is none", x.cargo(80, 0), -9);
        DUE.is("LOAD 80 cannot hang", x.hang(0, 80), NONE);
        DUE.is("LOAD 79 is not READY", x.hang(0, 79), HutLift.STATE);
        x.minute(79);
        DUE.is("LOAD 79 is READY", x.hang(0, 79), 1);
    }

    private static void hourIs0To11() {
        BUSY.range("hour(_, 1, 1, 1)", 0, 11, NONE, (x, n) -> x.hour(n, 1, 1, 1));
        for (int hour = 0; hour < 12; hour++) {
            HutLift x = new HutLift();
            x.machine(50, 1);
            DUE.is("HOUR " + hour, x.hour(hour, 0, 7, 0), 1);
            for (int other = 0; other < 12; other++) {
                DUE.is("LIFT in HOUR " + other, x.lift(0, 0, other), other == hour ? 43 : 50);
            }
        }
    }

    private static int saidOf(HutLift x, String text) {
        Due.rule(x, text);
        int said = x.says(0, 0, 0, 1);
        x.drop();
        return said;
    }

    private static void weatherIsMinus1To9() {
        BUSY.range("hour(0, _, 0, 0)", -1, 9, NONE, (x, n) -> x.hour(0, n, 0, 0));
        BUSY.range("hour(0, 0, _, 0)", -1, 9, NONE, (x, n) -> x.hour(0, 0, n, 0));
        BUSY.range("hour(0, 0, 0, _)", -1, 9, NONE, (x, n) -> x.hour(0, 0, 0, n));
        HutLift x = Scenes.hut(1);
        for (int n = 0; n <= 9; n++) {
            DUE.is("hour", x.hour(0, n, 9 - n, (n + 5) % 10), 1);
            DUE.is("WIND", saidOf(x, "w"), n);
            DUE.is("WARMTH", saidOf(x, "t"), 9 - n);
            DUE.is("SIGHT", saidOf(x, "s"), (n + 5) % 10);
        }
    }

    private static void weatherAtFirst() {
        HutLift x = Scenes.hut(1);
        for (int hour = 0; hour < 12; hour++) {
            DUE.is("WIND at first in HOUR " + hour, saidOf(x, "w"), 0);
            DUE.is("WARMTH at first in HOUR " + hour, saidOf(x, "t"), 0);
            DUE.is("SIGHT at first in HOUR " + hour, saidOf(x, "s"), 9);
            x.minute(60);
        }
    }

    /** -1 stands for the worst of each, and each may be told so by itself. */
    private static void weatherNotKnown() {
        for (int which = 0; which < 8; which++) {
            HutLift x = Scenes.hut(1);
            boolean wind = (which & 1) != 0;
            boolean warmth = (which & 2) != 0;
            boolean sight = (which & 4) != 0;
            DUE.is("hour", x.hour(0, wind ? -1 : 2, warmth ? -1 : 3, sight ? -1 : 4), 1);
            DUE.is("WIND, -1 is 9", saidOf(x, "w"), wind ? 9 : 2);
            DUE.is("WARMTH, -1 is 9", saidOf(x, "t"), warmth ? 9 : 3);
            DUE.is("SIGHT, -1 is 0", saidOf(x, "s"), sight ? 0 : 4);
        }
    }

    private static void hoursHave60Minutes() {
        HutLift x = Scenes.hut(1);
        Due.rule(x, "h");
        for (int hour = 0; hour < 12; hour++) {
            x.hour(hour, 0, hour % 10, 0);
        }
        for (int hour = 0; hour < 12; hour++) {
            DUE.is("the first minute of HOUR " + hour, x.says(0, 0, 0, 1), hour);
            DUE.is("its LIFT", x.about(0, 4), 200 - hour % 10);
            x.minute(59);
            DUE.is("the last minute of HOUR " + hour, x.says(0, 0, 0, 1), hour);
            DUE.is("its LIFT", x.about(0, 4), 200 - hour % 10);
            x.minute(1);
        }
        DUE.is("MINUTE", x.count(6), 720);
        DUE.is("at MINUTE 720 still HOUR 11", x.says(0, 0, 0, 1), 11);
        DUE.is("its LIFT", x.about(0, 4), 199);
    }

    private static void liftIs0AtLeast() {
        HutLift x = new HutLift();
        x.place(9, 1);
        x.machine(36, 1);
        x.machine(37, 1);
        x.machine(38, 1);
        x.machine(1, 1);
        x.hour(1, 0, 1, 0);
        x.hour(2, 0, 2, 0);
        x.hour(3, 0, 9, 0);
        int[][] want = {{0, 0, 0, 0}, {1, 0, 0, 0}, {2, 1, 0, 0}, {0, 0, 0, 0}};
        for (int machine = 0; machine < 4; machine++) {
            for (int hour = 0; hour < 4; hour++) {
                DUE.is("LIFT of " + machine + " in HOUR " + hour, x.lift(machine, 1, hour), want[machine][hour]);
            }
        }
        DUE.is("in the VALLEY, BASE 1, WARMTH 1", x.lift(3, 0, 1), 0);
        DUE.is("in the VALLEY, BASE 1, WARMTH 2", x.lift(3, 0, 2), 0);
        Due.pass(x, 180);
        DUE.is("in the VALLEY now, BASE 1, WARMTH 9", x.about(3, 4), 0);
    }

    private static void answersUpTo512Calls() {
        HutLift x = new HutLift();
        for (int call = 1; call <= 511; call++) {
            DUE.is("call " + call, x.minute(1), call);
        }
        DUE.is("call 512", x.count(6), 511);
    }
}
