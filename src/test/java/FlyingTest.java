/** Promises 11 to 16: hang, off, may, fly, fuel, minute. */
public final class FlyingTest {
    private static final Due DUE = new Due("FlyingTest");
    private static final int NONE = HutLift.NONE, FULL = HutLift.FULL, STATE = HutLift.STATE;

    public static void main(String[] args) {
        hanging();
        hangingAlone();
        hangingLater();
        takingOff();
        nobodyFlies();
        whyFree();
        whyPlace();
        whyTooLate();
        whyTooHeavy();
        whyFuel();
        whyMost();
        whyCold();
        whyRules();
        firstWhy();
        flying();
        longFlight();
        riders();
        ridersOfLater();
        manyFlights();
        fuelling();
        minutes();
        DUE.end();
    }

    /** Place 1 is 10 minutes off, place 2 is 20; two machines, two pilots. */
    private static HutLift office() {
        HutLift x = new HutLift();
        x.place(5, 10);
        x.place(0, 20);
        x.machine(100, 1000);
        x.machine(100, 1000);
        x.pilot(720, 0);
        x.pilot(720, 30);
        return x;
    }

    private static void hanging() {
        HutLift x = office();
        x.load(104, 10, 0, 9);
        x.load(105, 10, 0, 9);
        x.load(101, 10, 0, 9);
        x.load(201, 10, 0, 9);
        x.load(40101, 10, 0, 9);
        int[][] none = {{-1, 0}, {2, 0}, {0, -1}, {0, 5}, {Integer.MIN_VALUE, 0}, {0, Integer.MAX_VALUE}};
        for (int[] w : none) {
            DUE.is("hang(" + w[0] + ", " + w[1] + ")", x.hang(w[0], w[1]), NONE);
        }
        DUE.is("a DOWN one", x.hang(0, 4), STATE);
        DUE.is("the first", x.hang(0, 0), 1);
        DUE.is("it hangs", x.cargo(0, 0), 1);
        DUE.is("on machine 0", x.cargo(0, 1), 0);
        DUE.is("a second time", x.hang(0, 0), STATE);
        DUE.is("on another machine too", x.hang(1, 0), STATE);
        DUE.is("another place", x.hang(0, 3), STATE);
        DUE.is("another machine", x.hang(1, 3), 1);
        DUE.is("ROOM of 9", x.hang(0, 1), 2);
        DUE.is("ROOM of 10", x.hang(0, 2), STATE);
        DUE.is("refused: it waits", x.cargo(2, 0), 0);
        DUE.is("refused: two hang", x.about(0, 2), 2);
        DUE.is("refused: their WEIGHT", x.about(0, 3), 20);
    }

    private static void hangingAlone() {
        for (int kind = 0; kind <= 3; kind++) {
            for (int other = 0; other <= 3; other++) {
                HutLift x = office();
                x.load(10000 * kind + 101, 10, 0, 9);
                x.load(10000 * other + 101, 10, 0, 9);
                boolean alone = kind % 2 == 1 || other % 2 == 1;
                DUE.is("kind " + kind, x.hang(0, 0), 1);
                DUE.is("kind " + other + " with " + kind, x.hang(0, 1), alone ? STATE : 2);
            }
        }
        HutLift x = office();
        for (int i = 0; i < 10; i++) {
            x.load(101, 99, 0, 9);
        }
        for (int i = 0; i < 9; i++) {
            DUE.is("nine may hang, however heavy", x.hang(0, i), i + 1);
        }
        DUE.is("ten may not", x.hang(0, 9), STATE);
    }

    private static void hangingLater() {
        HutLift x = office();
        x.load(101, 10, 23, 9);
        x.load(101, 10, 0, 9);
        x.fly(0, 0, 1);
        x.minute(21);
        DUE.is("not back", x.hang(0, 1), STATE);
        DUE.is("not ready", x.hang(1, 0), STATE);
        x.minute(1);
        DUE.is("just back", x.hang(0, 1), 1);
        DUE.is("still not ready", x.hang(1, 0), STATE);
        x.minute(1);
        DUE.is("ready now", x.hang(0, 0), 2);
        x.fly(0, 0, 1);
        DUE.is("it flies", x.hang(1, 0), STATE);
        x.minute(50);
        DUE.is("it is shelved", x.hang(1, 0), STATE);
    }

    private static void takingOff() {
        HutLift x = office();
        for (int i = 0; i < 3; i++) {
            x.load(101, 10 + i, 0, 99);
        }
        x.load(201, 10, 0, 99);
        for (int load : new int[] {-1, 4, Integer.MIN_VALUE, Integer.MAX_VALUE}) {
            DUE.is("off(" + load + ")", x.off(load), NONE);
        }
        DUE.is("it does not hang", x.off(0), STATE);
        x.hang(0, 0);
        x.hang(0, 1);
        x.hang(0, 2);
        x.hang(1, 3);
        DUE.is("the middle one", x.off(1), 2);
        DUE.is("the right one is off", x.about(0, 3), 22);
        DUE.is("it waits", x.cargo(1, 0), 0);
        DUE.is("on no machine", x.cargo(1, 1), -1);
        DUE.is("twice", x.off(1), STATE);
        DUE.is("the first one", x.off(0), 1);
        DUE.is("the last one", x.off(2), 0);
        DUE.is("the other machine", x.off(3), 0);
        DUE.is("again on the other machine", x.hang(1, 1), 1);
        DUE.is("goes to the other place", x.hang(0, 3), 1);
        x.fly(1, 0, 1);
        DUE.is("it flies", x.off(1), STATE);
        x.minute(10);
        DUE.is("it is shelved", x.off(1), STATE);
        x.minute(50);
        DUE.is("what hangs stays so", x.cargo(3, 0), 1);
    }

    private static void nobodyFlies() {
        HutLift x = office();
        int[][] wrong = {{-1, 0, 1}, {2, 0, 1}, {0, -1, 1}, {0, 2, 1}, {0, 0, -1}, {0, 0, 0}, {0, 0, 3},
            {Integer.MIN_VALUE, 0, 1}, {0, Integer.MAX_VALUE, 1}, {0, 0, Integer.MAX_VALUE}};
        for (int[] w : wrong) {
            DUE.is("may(" + w[0] + ", " + w[1] + ", " + w[2] + ")", x.may(w[0], w[1], w[2]), NONE);
            DUE.is("fly(" + w[0] + ", " + w[1] + ", " + w[2] + ")", x.fly(w[0], w[1], w[2]), NONE);
        }
        DUE.is("no flights", x.count(5), 0);
    }

    /** What fly refuses is what may tells, and it changes nothing. */
    private static void why(HutLift x, String what, int machine, int pilot, int place, int why) {
        int flights = x.count(5);
        int fuel = x.about(machine, 0);
        int free = x.pilotOf(pilot, 1);
        DUE.is(what + ": may", x.may(machine, pilot, place), why);
        if (why != 0) {
            DUE.is(what + ": fly", x.fly(machine, pilot, place), -10 - why);
        }
        DUE.is(what + ": flights", x.count(5), flights);
        DUE.is(what + ": fuel", x.about(machine, 0), fuel);
        DUE.is(what + ": pilot", x.pilotOf(pilot, 1), free);
    }

    private static void whyFree() {
        HutLift x = office();
        why(x, "all free", 0, 1, 1, 0);
        DUE.is("it flies", x.fly(0, 1, 1), 0);
        why(x, "machine and pilot away", 0, 1, 1, 1);
        why(x, "machine away", 0, 0, 1, 1);
        why(x, "pilot away", 1, 1, 1, 2);
        why(x, "the others", 1, 0, 1, 0);
        x.minute(21);
        why(x, "machine not yet back", 0, 0, 1, 1);
        x.minute(1);
        why(x, "machine is back", 0, 0, 1, 0);
        why(x, "pilot rests", 0, 1, 1, 2);
        x.minute(29);
        why(x, "pilot rests still", 0, 1, 1, 2);
        x.minute(1);
        why(x, "pilot has rested", 0, 1, 1, 0);
    }

    private static void whyPlace() {
        HutLift x = office();
        x.load(101, 10, 0, 9);
        x.hang(0, 0);
        why(x, "its own place", 0, 0, 1, 0);
        why(x, "another place", 0, 0, 2, 3);
        why(x, "nothing hangs on the other", 1, 0, 2, 0);
    }

    private static void whyTooLate() {
        HutLift x = office();
        Due.pass(x, 698);
        why(x, "back at 720", 0, 0, 1, 0);
        why(x, "back at 740", 0, 0, 2, 4);
        x.minute(1);
        why(x, "back at 721", 0, 0, 1, 4);
        x.minute(21);
        why(x, "at the end", 0, 0, 1, 4);
    }

    private static void whyTooHeavy() {
        HutLift x = office();
        x.load(101, 80, 0, 99);
        x.load(201, 99, 0, 99);
        x.hang(0, 0);
        x.hang(1, 1);
        why(x, "80 at a height of 5", 0, 0, 1, 0);
        x.hour(0, 0, 1, 9);
        why(x, "warmth of 1 up there", 0, 0, 1, 5);
        why(x, "99 in the valley", 1, 0, 2, 0);
        x.hour(0, 0, 2, 9);
        why(x, "warmth of 2 in the valley", 1, 0, 2, 5);
        x.hour(0, 0, 0, 9);
        x.hour(1, 0, 9, 9);
        Due.pass(x, 39);
        why(x, "SET in hour 0", 1, 0, 2, 0);
        x.minute(1);
        why(x, "SET in hour 1", 1, 0, 2, 5);
        x.minute(9);
        why(x, "SET in hour 0 still", 0, 0, 1, 0);
        x.minute(1);
        why(x, "SET in hour 1 there", 0, 0, 1, 5);
        x.hour(1, 0, 0, 9);
        x.hour(0, 0, 9, 9);
        why(x, "too warm now, not there", 1, 0, 2, 5);
        x.off(1);
        why(x, "nothing hangs", 1, 0, 2, 0);
    }

    private static void whyFuel() {
        HutLift x = new HutLift();
        x.place(0, 10);
        x.machine(100, 60);
        x.machine(100, 59);
        x.machine(100, 70);
        x.machine(100, 69);
        x.pilot(720, 0);
        x.load(101, 39, 0, 99);
        x.load(101, 40, 0, 99);
        x.hang(0, 0);
        x.hang(1, 1);
        why(x, "39 and 60 of fuel", 0, 0, 1, 0);
        why(x, "40 and 59 of fuel", 1, 0, 1, 6);
        x.off(0);
        x.off(1);
        x.hang(2, 1);
        why(x, "40 and 70 of fuel", 2, 0, 1, 0);
        x.off(1);
        x.hang(3, 1);
        why(x, "40 and 69 of fuel", 3, 0, 1, 6);
        x.load(40101, 20, 0, 99);
        x.off(1);
        x.hang(0, 0);
        why(x, "39, a rider of 20 and 60 of fuel", 0, 0, 1, 6);
        x.off(0);
        x.hang(2, 0);
        why(x, "39, a rider of 20 and 70 of fuel", 2, 0, 1, 0);
    }

    private static void whyMost() {
        HutLift x = new HutLift();
        x.place(0, 10);
        x.machine(100, 2000);
        x.pilot(21, 0);
        x.pilot(44, 0);
        why(x, "22 minutes of 21", 0, 0, 1, 7);
        DUE.is("22 minutes of 44", x.fly(0, 1, 1), 0);
        x.minute(22);
        DUE.is("22 minutes of 22", x.fly(0, 1, 1), 1);
        x.minute(22);
        why(x, "22 minutes of 0", 0, 1, 1, 7);
    }

    private static void whyCold() {
        HutLift x = office();
        x.load(20101, 10, 5, 99);
        x.load(20101, 10, 0, 99);
        x.load(101, 10, 0, 99);
        x.minute(85);
        x.hang(0, 2);
        x.hang(0, 0);
        why(x, "90 behind READY", 0, 0, 1, 0);
        x.minute(1);
        why(x, "91 behind READY", 0, 0, 1, 8);
        x.off(0);
        why(x, "a plain one keeps", 0, 0, 1, 0);
        x.hang(0, 1);
        why(x, "96 behind READY", 0, 0, 1, 8);
    }

    private static void whyRules() {
        HutLift x = office();
        for (int i = 0; i < 10; i++) {
            Due.rule(x, "w " + i + " >");
        }
        for (int wind = 0; wind <= 9; wind++) {
            x.hour(0, wind, 0, 9);
            why(x, "wind " + wind, 0, 0, 1, 10 + wind);
        }
        x.drop();
        why(x, "nine rules hold", 0, 0, 1, 0);
        HutLift y = office();
        Due.rule(y, "0 5-");
        why(y, "what is not 0 holds", 0, 0, 1, 0);
        Due.rule(y, "h");
        Due.pass(y, 55);
        why(y, "the hour when it begins", 0, 0, 1, 11);
        Due.pass(y, 5);
        why(y, "the next hour", 0, 0, 1, 0);
    }

    /** Where several are wrong, the first WHY is told. */
    private static void firstWhy() {
        HutLift x = new HutLift();
        x.place(9, 60);
        x.place(0, 1);
        x.machine(40, 14);
        x.machine(200, 2000);
        x.pilot(14, 2);
        x.load(20101, 41, 0, 0);
        Due.rule(x, "m 598 =");
        Due.pass(x, 598);
        x.hang(0, 0);
        DUE.is("the first flight", x.fly(1, 0, 2), 0);
        DUE.is("the machine is ahead of the pilot", x.may(1, 0, 1), 1);
        DUE.is("the pilot is ahead of the place", x.may(0, 0, 2), 2);
        Due.pass(x, 119);
        DUE.is("the place is ahead of the end", x.may(0, 0, 2), 3);
        DUE.is("the end is ahead of the weight", x.may(0, 0, 1), 4);
        firstWhyFromWeightOn();
    }

    private static void firstWhyFromWeightOn() {
        HutLift y = new HutLift();
        y.place(9, 60);
        y.machine(40, 14);
        y.machine(200, 14);
        y.machine(200, 2000);
        y.pilot(14, 2);
        y.pilot(720, 0);
        y.load(20101, 41, 0, 0);
        Due.rule(y, "0");
        y.minute(60);
        y.hang(0, 0);
        DUE.is("the weight is ahead of the fuel", y.may(0, 0, 1), 5);
        y.off(0);
        y.hang(1, 0);
        DUE.is("the fuel is ahead of MOST", y.may(1, 0, 1), 6);
        y.off(0);
        y.hang(2, 0);
        DUE.is("MOST is ahead of the cold", y.may(2, 0, 1), 7);
        DUE.is("the cold is ahead of the rules", y.may(2, 1, 1), 8);
        y.off(0);
        DUE.is("the rules are last", y.may(2, 1, 1), 10);
    }

    private static void tells(HutLift x, int flight, int... want) {
        for (int i = 0; i < want.length; i++) {
            DUE.is("flight(" + flight + ", " + i + ")", x.flight(flight, i), want[i]);
        }
    }

    private static void flying() {
        HutLift x = office();
        x.load(101, 25, 0, 40);
        x.load(20102, 30, 0, 39);
        x.load(40103, 21, 0, 52);
        x.minute(30);
        x.hang(1, 1);
        x.hang(1, 0);
        DUE.is("a flight", x.fly(1, 1, 1), 0);
        tells(x, 0, 1, 1, 1, 30, 40, 52, 10 * (2 + 2) + 10 * (2 + 1), 2, 1);
        DUE.is("fuel is less", x.about(1, 0), 930);
        DUE.is("machine is free when it is back", x.about(1, 1), 52);
        DUE.is("nothing hangs", x.about(1, 2), 0);
        DUE.is("no weight hangs", x.about(1, 3), 0);
        DUE.is("pilot is free when rested", x.pilotOf(1, 1), 82);
        DUE.is("pilot has flown", x.pilotOf(1, 0), 22);
        for (int i = 0; i < 3; i++) {
            DUE.is("it flies", x.cargo(i, 0), 2);
            DUE.is("it does not hang", x.cargo(i, 1), -1);
            DUE.is("in flight 0", x.cargo(i, 2), 0);
            DUE.is("it is not shelved", x.cargo(i, 3), -1);
        }
        DUE.is("the other machine is untouched", x.about(0, 0), 1000);
        DUE.is("the other pilot flies, too", x.fly(0, 0, 2), 1);
        tells(x, 1, 0, 0, 2, 30, 50, 72, 80, 0, 0);
    }

    private static void longFlight() {
        HutLift x = office();
        x.load(10101, 45, 0, 19);
        x.load(40101, 10, 20, 42);
        x.load(40101, 10, 21, 42);
        x.hang(0, 0);
        DUE.is("a long flight", x.fly(0, 0, 1), 0);
        tells(x, 0, 0, 0, 1, 0, 20, 42, 20 * 4 + 20 * 2, 1, 1);
        DUE.is("42 minutes are flown", x.pilotOf(0, 0), 42);
        x.minute(19);
        DUE.is("not yet there", x.cargo(0, 0), 2);
        x.minute(1);
        DUE.is("there", x.cargo(0, 3), 20);
        DUE.is("late", x.cargo(0, 4), 1);
        x.minute(22);
        DUE.is("the rider is down", x.cargo(1, 3), 42);
        DUE.is("the rider is not late", x.cargo(1, 4), 0);
        DUE.is("no rider: not ready by SET", x.cargo(2, 0), 0);
        DUE.is("the way is as ever without it", x.fly(0, 0, 1), 1);
        DUE.is("back again", x.flight(1, 5), 64);
    }

    private static void riders() {
        HutLift x = office();
        x.load(40104, 30, 0, 99);
        x.load(40204, 1, 0, 99);
        x.load(40106, 1, 0, 99);
        x.load(40101, 51, 0, 99);
        x.load(101, 1, 0, 99);
        x.load(40103, 50, 10, 99);
        x.load(40103, 1, 0, 99);
        x.load(40101, 1, 11, 99);
        x.load(40102, 1, 0, 99);
        DUE.is("a flight with nothing hanging", x.fly(0, 0, 1), 0);
        tells(x, 0, 0, 0, 1, 0, 10, 22, 10 * 2 + 10 * (2 + 4), 0, 2);
        int[] flying = {2, 0, 0, 0, 0, 2, 0, 0, 0};
        for (int i = 0; i < flying.length; i++) {
            DUE.is("rider " + i, x.cargo(i, 0), flying[i]);
        }
        x.hour(0, 0, 9, 9);
        DUE.is("a second machine takes what is left", x.fly(1, 1, 1), 1);
        DUE.is("its riders", x.flight(1, 8), 3);
        int[] taken = {0, -1, 1, 1, -1, 0, -1, -1, 1};
        for (int i = 0; i < taken.length; i++) {
            DUE.is("flight of rider " + i, x.cargo(i, 2), taken[i]);
        }
        DUE.is("riders do not hang", x.about(1, 2), 0);
    }

    /** LIFT there is that of the hour of SET. */
    private static void ridersOfLater() {
        HutLift x = office();
        x.load(40101, 80, 0, 720);
        x.load(40101, 71, 0, 720);
        x.hour(0, 0, 9, 9);
        x.hour(1, 0, 0, 9);
        x.minute(50);
        DUE.is("may", x.may(0, 0, 1), 0);
        x.fly(0, 0, 1);
        DUE.is("it is colder there", x.cargo(0, 0), 2);
        HutLift y = office();
        y.load(40101, 80, 0, 720);
        y.load(40101, 71, 0, 720);
        y.hour(0, 0, 9, 9);
        y.minute(49);
        y.fly(0, 0, 1);
        DUE.is("it is warm there", y.cargo(0, 0), 0);
        DUE.is("the next one fits", y.cargo(1, 0), 2);
    }

    private static void manyFlights() {
        HutLift x = new HutLift();
        x.place(0, 1);
        for (int i = 0; i < 4; i++) {
            x.machine(10, 2000);
            x.pilot(720, 0);
        }
        for (int i = 0; i < 200; i++) {
            if (i > 0 && i % 4 == 0) {
                x.minute(4);
            }
            DUE.is("flight " + i, x.fly(i % 4, i % 4, 1), i);
        }
        DUE.is("WHY is ahead of FULL", x.fly(0, 0, 1), -11);
        x.minute(4);
        DUE.is("may yet be", x.may(0, 0, 1), 0);
        DUE.is("201st flight", x.fly(0, 0, 1), FULL);
        DUE.is("NONE is ahead of FULL", x.fly(0, 0, 0), NONE);
        DUE.is("refused: fuel", x.about(0, 0), 2000 - 50 * 4);
        DUE.is("refused: free", x.about(0, 1), 200);
        DUE.is("refused: flown", x.pilotOf(0, 0), 200);
        DUE.is("flights", x.count(5), 200);
        DUE.is("the last one", x.flight(199, 3), 196);
        DUE.is("none behind it", x.flight(200, 3), -9);
    }

    private static void fuelling() {
        HutLift x = office();
        for (int machine : new int[] {-1, 2, Integer.MIN_VALUE, Integer.MAX_VALUE}) {
            DUE.is("fuel(" + machine + ")", x.fuel(machine), NONE);
        }
        DUE.is("it is full", x.fuel(0), 0);
        x.fly(0, 0, 1);
        DUE.is("it flies", x.fuel(0), STATE);
        DUE.is("no fuel came", x.about(0, 0), 960);
        x.minute(21);
        DUE.is("it flies still", x.fuel(0), STATE);
        x.minute(1);
        DUE.is("it is back", x.fuel(0), 40);
        DUE.is("its fuel", x.about(0, 0), 1000);
        DUE.is("no more comes", x.fuel(0), 0);
    }

    private static void minutes() {
        HutLift x = office();
        for (int n : new int[] {0, -1, 121, Integer.MIN_VALUE, Integer.MAX_VALUE}) {
            DUE.is("minute(" + n + ")", x.minute(n), NONE);
        }
        DUE.is("no minute went by", x.count(6), 0);
        DUE.is("a minute", x.minute(1), 1);
        DUE.is("two hours", x.minute(120), 121);
        DUE.is("the day", Due.pass(x, 590), 711);
        DUE.is("too far", x.minute(10), NONE);
        DUE.is("not gone", x.count(6), 711);
        DUE.is("to the end", x.minute(9), 720);
        DUE.is("beyond it", x.minute(1), NONE);
        shelvingInOneGo();
    }

    private static void shelvingInOneGo() {
        HutLift x = office();
        x.load(101, 10, 0, 10);
        x.load(101, 10, 0, 9);
        x.load(40101, 10, 0, 22);
        x.load(40101, 10, 0, 21);
        x.hang(0, 0);
        x.hang(0, 1);
        x.fly(0, 0, 1);
        x.minute(9);
        DUE.is("none is shelved", x.count(7), 0);
        x.minute(12);
        DUE.is("what hung is shelved", x.count(7), 2);
        DUE.is("at SET, not now", x.cargo(0, 3), 10);
        DUE.is("riders fly", x.cargo(2, 0), 2);
        x.minute(100);
        DUE.is("all are shelved", x.count(7), 4);
        DUE.is("riders at BACK", x.cargo(2, 3), 22);
        DUE.is("just in time", x.cargo(0, 4) + x.cargo(2, 4), 0);
        DUE.is("a minute late", x.cargo(1, 4) + x.cargo(3, 4), 2);
        DUE.is("two are late", x.count(8), 2);
    }
}
