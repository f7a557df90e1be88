/** Promises 17 to 21 and 26: about, pilotOf, cargo with its COST, flight, lift, count. */
public final class TellingTest {
    private static final Due DUE = new Due("TellingTest");
    private static final int[] WILD = {-1, Integer.MIN_VALUE, Integer.MAX_VALUE, 100, -9};

    public static void main(String[] args) {
        about();
        pilotOf();
        cargo();
        cost();
        costOfLeast();
        costOfNone();
        flight();
        lift();
        count();
        DUE.end();
    }

    private static HutLift office() {
        HutLift x = new HutLift();
        x.place(5, 10);
        x.place(9, 3);
        x.machine(100, 1000);
        x.machine(30, 500);
        x.pilot(700, 5);
        x.pilot(300, 0);
        return x;
    }

    private static void about() {
        HutLift x = office();
        x.load(101, 7, 0, 0);
        x.load(101, 8, 0, 0);
        x.hang(1, 0);
        x.hang(1, 1);
        x.hour(0, 0, 4, 0);
        int[] want = {500, 0, 2, 15, 26};
        for (int what = 0; what < 5; what++) {
            DUE.is("about(1, " + what + ")", x.about(1, what), want[what]);
        }
        DUE.is("about(0, 2)", x.about(0, 2), 0);
        for (int wild : WILD) {
            DUE.is("about(0, " + wild + ")", x.about(0, wild), -9);
            DUE.is("about(" + wild + ", 0)", x.about(wild, 0), -9);
        }
        DUE.is("about(0, 5)", x.about(0, 5), -9);
        DUE.is("about(2, 0)", x.about(2, 0), -9);
        x.minute(60);
        DUE.is("LIFT in the next hour", x.about(1, 4), 30);
    }

    private static void pilotOf() {
        HutLift x = office();
        x.fly(0, 0, 1);
        int[] want = {22, 27, 678};
        for (int what = 0; what < 3; what++) {
            DUE.is("pilotOf(0, " + what + ")", x.pilotOf(0, what), want[what]);
        }
        DUE.is("pilotOf(1, 2)", x.pilotOf(1, 2), 300);
        for (int wild : WILD) {
            DUE.is("pilotOf(0, " + wild + ")", x.pilotOf(0, wild), -9);
            DUE.is("pilotOf(" + wild + ", 0)", x.pilotOf(wild, 0), -9);
        }
        DUE.is("pilotOf(0, 3)", x.pilotOf(0, 3), -9);
        DUE.is("pilotOf(2, 0)", x.pilotOf(2, 0), -9);
    }

    private static void cargoIs(HutLift x, String when, int load, int... want) {
        for (int what = 0; what < want.length; what++) {
            DUE.is("cargo(" + load + ", " + what + ") " + when, x.cargo(load, what), want[what]);
        }
    }

    private static void cargo() {
        HutLift x = office();
        x.load(101, 7, 0, 20);
        x.load(101, 7, 0, 29);
        x.load(40101, 7, 0, 41);
        cargoIs(x, "at first", 1, 0, -1, -1, -1, 0, 0);
        x.fly(0, 1, 2);
        x.minute(20);
        x.hang(1, 1);
        cargoIs(x, "hanging", 1, 1, 1, -1, -1, 0, 0);
        x.fly(1, 1, 1);
        cargoIs(x, "flying", 1, 2, -1, 1, -1, 0, 11);
        cargoIs(x, "riding", 2, 2, -1, 1, -1, 0, 11);
        x.minute(10);
        cargoIs(x, "there", 1, 3, -1, 1, 30, 1, 11);
        x.minute(12);
        cargoIs(x, "down", 2, 3, -1, 1, 42, 1, 11);
        cargoIs(x, "left", 0, 0, -1, -1, -1, 0, 0);
        for (int wild : WILD) {
            DUE.is("cargo(0, " + wild + ")", x.cargo(0, wild), -9);
            DUE.is("cargo(" + wild + ", 0)", x.cargo(wild, 0), -9);
        }
        DUE.is("cargo(0, 6)", x.cargo(0, 6), -9);
        DUE.is("cargo(3, 0)", x.cargo(3, 0), -9);
    }

    private static void cost() {
        HutLift x = office();
        x.load(40102, 11, 0, 9);
        x.load(102, 30, 0, 9);
        x.load(103, 17, 0, 9);
        x.load(101, 1, 0, 9);
        x.hang(0, 3);
        x.hang(0, 2);
        x.hang(0, 1);
        x.fly(0, 0, 1);
        // 22 minutes among 11, 30, 17 and 1 of 59: 4, 11, 6 and 0, and one more to the least, which rides
        int[] want = {5, 11, 6, 0};
        for (int i = 0; i < want.length; i++) {
            DUE.is("cost " + i, x.cargo(i, 5), want[i]);
        }
        x.minute(50);
        for (int i = 0; i < want.length; i++) {
            DUE.is("cost stays " + i, x.cargo(i, 5), want[i]);
        }
    }

    /** The least is the least number, whichever was hung first. */
    private static void costOfLeast() {
        HutLift x = office();
        x.load(101, 3, 0, 9);
        x.load(101, 3, 0, 9);
        x.load(101, 3, 0, 9);
        x.load(40101, 3, 0, 9);
        x.hang(0, 2);
        x.hang(0, 1);
        x.fly(0, 0, 1);
        // 22 minutes in three parts of 7
        DUE.is("cost of what waits", x.cargo(0, 5), 0);
        DUE.is("cost of the least", x.cargo(1, 5), 8);
        DUE.is("cost of the first hung", x.cargo(2, 5), 7);
        DUE.is("cost of the rider", x.cargo(3, 5), 7);
        HutLift y = office();
        y.load(10201, 3, 0, 9);
        y.hang(0, 0);
        y.fly(0, 1, 2);
        DUE.is("one alone has all, of the doubled way", y.cargo(0, 5), 14);
        y.load(40101, 1, 0, 9);
        y.minute(14);
        y.fly(1, 0, 1);
        DUE.is("a light rider alone has all", y.cargo(1, 5), 22);
    }

    private static void costOfNone() {
        HutLift x = office();
        x.load(101, 3, 0, 9);
        DUE.is("a flight without loads", x.fly(0, 0, 1), 0);
        DUE.is("costs none of them", x.cargo(0, 5), 0);
    }

    private static void flight() {
        HutLift x = office();
        x.load(201, 20, 0, 9);
        x.load(202, 20, 0, 9);
        x.load(40203, 3, 0, 9);
        x.minute(7);
        x.hang(0, 0);
        x.hang(0, 1);
        x.fly(0, 1, 2);
        int[] want = {0, 1, 2, 7, 10, 15, 3 * 4 + 3 * 2, 2, 1};
        for (int what = 0; what < want.length; what++) {
            DUE.is("flight(0, " + what + ")", x.flight(0, what), want[what]);
        }
        for (int wild : WILD) {
            DUE.is("flight(0, " + wild + ")", x.flight(0, wild), -9);
            DUE.is("flight(" + wild + ", 0)", x.flight(wild, 0), -9);
        }
        DUE.is("flight(0, 9)", x.flight(0, 9), -9);
        DUE.is("flight(1, 0)", x.flight(1, 0), -9);
    }

    private static void lift() {
        HutLift x = office();
        x.hour(3, 0, 6, 0);
        x.hour(11, 0, -1, 0);
        DUE.is("in the valley", x.lift(0, 0, 0), 100);
        DUE.is("by height", x.lift(0, 1, 0), 80);
        DUE.is("by height and warmth", x.lift(0, 1, 3), 74);
        DUE.is("by warmth", x.lift(0, 0, 11), 91);
        DUE.is("of another machine", x.lift(1, 1, 3), 4);
        DUE.is("0 at least", x.lift(1, 2, 3), 0);
        DUE.is("0 at least", x.lift(1, 2, 0), 0);
        for (int wild : WILD) {
            DUE.is("lift(" + wild + ", 0, 0)", x.lift(wild, 0, 0), -9);
            DUE.is("lift(0, " + wild + ", 0)", x.lift(0, wild, 0), -9);
            DUE.is("lift(0, 0, " + wild + ")", x.lift(0, 0, wild), -9);
        }
        DUE.is("lift(2, 0, 0)", x.lift(2, 0, 0), -9);
        DUE.is("lift(0, 3, 0)", x.lift(0, 3, 0), -9);
        DUE.is("lift(0, 0, 12)", x.lift(0, 0, 12), -9);
    }

    private static void count() {
        HutLift x = office();
        for (int i = 0; i < 5; i++) {
            x.load(101, 10, 0, i);
        }
        Due.rule(x, "1");
        Due.rule(x, "2");
        Due.rule(x, "3");
        Due.feed(x, "wwwww");
        x.hang(0, 0);
        x.hang(0, 1);
        x.fly(0, 0, 1);
        x.minute(3);
        x.hang(1, 2);
        x.fly(1, 1, 1);
        int[] before = {3, 2, 2, 5, 3, 2, 3, 0, 0, 5};
        for (int what = 0; what < before.length; what++) {
            DUE.is("count(" + what + ") ahead", x.count(what), before[what]);
        }
        x.minute(8);
        int[] after = {3, 2, 2, 5, 3, 2, 11, 2, 2, 5};
        for (int what = 0; what < after.length; what++) {
            DUE.is("count(" + what + ") behind", x.count(what), after[what]);
        }
        for (int wild : WILD) {
            DUE.is("count(" + wild + ")", x.count(wild), HutLift.NONE);
        }
        DUE.is("count(10)", x.count(10), HutLift.NONE);
    }
}
