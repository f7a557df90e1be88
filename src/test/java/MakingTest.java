/** Promises 1 to 6: a new object, place, machine, pilot, load, hour. */
public final class MakingTest {
    private static final Due DUE = new Due("MakingTest");
    private static final int LEAST = Integer.MIN_VALUE, GREATEST = Integer.MAX_VALUE;

    public static void main(String[] args) {
        newObject();
        places();
        machines();
        pilots();
        loads();
        loadNumbers();
        hours();
        hoursBeyond();
        DUE.end();
    }

    private static void newObject() {
        HutLift x = new HutLift();
        DUE.is("new: PLACES", x.count(0), 1);
        for (int what = 1; what <= 9; what++) {
            DUE.is("new: count(" + what + ")", x.count(what), 0);
        }
        DUE.is("new: ordered(0)", x.ordered(0), HutLift.NONE);
        x.machine(50, 100);
        DUE.is("new: LIFT in the VALLEY", x.lift(0, 0, 0), 50);
        DUE.is("new: no other PLACE", x.lift(0, 1, 0), -9);
        HutLift other = new HutLift();
        DUE.is("objects share nothing", other.count(1), 0);
    }

    private static void places() {
        HutLift x = new HutLift();
        int[][] wrong = {{-1, 1}, {10, 1}, {0, 0}, {0, 61}, {0, -1}, {LEAST, 5}, {GREATEST, 5}, {5, LEAST}, {5, GREATEST}};
        for (int[] w : wrong) {
            DUE.is("place(" + w[0] + ", " + w[1] + ")", x.place(w[0], w[1]), HutLift.NONE);
        }
        DUE.is("refused places change nothing", x.count(0), 1);
        DUE.is("lowest and nearest", x.place(0, 1), 1);
        DUE.is("highest and farthest", x.place(9, 60), 2);
        for (int i = 3; i <= 11; i++) {
            DUE.is("place " + i, x.place(3, 3), i);
        }
        DUE.is("a 13th place", x.place(3, 3), HutLift.FULL);
        DUE.is("NONE is ahead of FULL", x.place(10, 3), HutLift.NONE);
        DUE.is("full of places", x.count(0), 12);
    }

    private static void machines() {
        HutLift x = new HutLift();
        int[][] wrong = {{0, 1}, {201, 1}, {1, 0}, {1, 2001}, {-1, 1}, {LEAST, LEAST}, {GREATEST, 5}, {5, GREATEST}};
        for (int[] w : wrong) {
            DUE.is("machine(" + w[0] + ", " + w[1] + ")", x.machine(w[0], w[1]), HutLift.NONE);
        }
        DUE.is("least machine", x.machine(1, 1), 0);
        DUE.is("greatest machine", x.machine(200, 2000), 1);
        DUE.is("FUEL is TANK", x.about(1, 0), 2000);
        DUE.is("FREE is 0", x.about(1, 1), 0);
        DUE.is("BASE lifts", x.about(1, 4), 200);
        x.machine(9, 9);
        DUE.is("fourth machine", x.machine(9, 9), 3);
        DUE.is("fifth machine", x.machine(9, 9), HutLift.FULL);
        DUE.is("NONE is ahead of FULL", x.machine(9, 0), HutLift.NONE);
        DUE.is("full of machines", x.count(1), 4);
    }

    private static void pilots() {
        HutLift x = new HutLift();
        int[][] wrong = {{-1, 0}, {721, 0}, {0, -1}, {0, 121}, {LEAST, 0}, {0, GREATEST}};
        for (int[] w : wrong) {
            DUE.is("pilot(" + w[0] + ", " + w[1] + ")", x.pilot(w[0], w[1]), HutLift.NONE);
        }
        DUE.is("least pilot", x.pilot(0, 0), 0);
        DUE.is("greatest pilot", x.pilot(720, 120), 1);
        DUE.is("has not flown", x.pilotOf(1, 0), 0);
        DUE.is("is free", x.pilotOf(1, 1), 0);
        DUE.is("may fly MOST", x.pilotOf(1, 2), 720);
        for (int i = 2; i < 6; i++) {
            DUE.is("pilot " + i, x.pilot(1, 1), i);
        }
        DUE.is("seventh pilot", x.pilot(1, 1), HutLift.FULL);
        DUE.is("NONE is ahead of FULL", x.pilot(1, 121), HutLift.NONE);
        DUE.is("full of pilots", x.count(2), 6);
    }

    private static void loads() {
        HutLift x = new HutLift();
        x.place(1, 1);
        int[][] wrong = {{1, 1, 0, 0}, {100, 1, 0, 0}, {110, 1, 0, 0}, {201, 1, 0, 0}, {50101, 1, 0, 0}, {-101, 1, 0, 0},
            {101, 0, 0, 0}, {101, 100, 0, 0}, {101, 1, -1, 0}, {101, 1, 721, 0}, {101, 1, 0, -1}, {101, 1, 0, 721},
            {LEAST, 1, 0, 0}, {GREATEST, 1, 0, 0}, {-9899, 1, 0, 0}, {-1, 1, 0, 0}, {101, LEAST, 0, 0},
            {101, 1, GREATEST, 0}, {1000101, 1, 0, 0}, {0, 1, 0, 0}, {10001, 1, 0, 0}};
        for (int[] w : wrong) {
            DUE.is("load(" + w[0] + ", " + w[1] + ", " + w[2] + ", " + w[3] + ")",
                    x.load(w[0], w[1], w[2], w[3]), HutLift.NONE);
        }
        DUE.is("refused loads change nothing", x.count(3), 0);
        DUE.is("least load", x.load(101, 1, 0, 0), 0);
        DUE.is("greatest load", x.load(40109, 99, 720, 720), 1);
        DUE.is("it waits", x.cargo(1, 0), 0);
        for (int i = 2; i < 80; i++) {
            DUE.is("load " + i, x.load(101, 1, 0, 0), i);
        }
        DUE.is("81st load", x.load(101, 1, 0, 0), HutLift.FULL);
        DUE.is("NONE is ahead of FULL", x.load(101, 0, 0, 0), HutLift.NONE);
        DUE.is("full of loads", x.count(3), 80);
    }

    /** The parts of what are told apart, also with a PLACE of two digits. */
    private static void loadNumbers() {
        HutLift x = new HutLift();
        for (int i = 1; i <= 11; i++) {
            x.place(0, 1);
        }
        x.machine(200, 2000);
        x.pilot(720, 0);
        DUE.is("a DANGER load of place 11", x.load(31107, 33, 0, 0), 0);
        DUE.is("place 12 is not there", x.load(31207, 33, 0, 0), HutLift.NONE);
        x.hang(0, 0);
        Due.rule(x, "k");
        Due.rule(x, "l");
        DUE.is("its KIND", x.says(0, 0, 0, 11), 3);
        DUE.is("its WEIGHT", x.says(1, 0, 0, 11), 33);
        DUE.is("its PLACE", x.may(0, 0, 11), 0);
        DUE.is("no other PLACE", x.may(0, 0, 1), 3);
    }

    private static void hours() {
        HutLift x = new HutLift();
        x.place(9, 1);
        x.machine(50, 100);
        x.pilot(1, 0);
        Due.rule(x, "w");
        Due.rule(x, "t");
        Due.rule(x, "s");
        int[] first = {0, 0, 9};
        int[] told = {3, 4, 5};
        int[] notTold = {9, 9, 0};
        int[] partly = {9, 0, 7};
        weather(x, "at first", first);
        DUE.is("hour is told", x.hour(0, 3, 4, 5), 1);
        weather(x, "told", told);
        int[][] wrong = {{-1, 0, 0, 0}, {12, 0, 0, 0}, {0, -2, 0, 0}, {0, 10, 0, 0}, {0, 0, -2, 0}, {0, 0, 10, 0},
            {0, 0, 0, -2}, {0, 0, 0, 10}, {LEAST, 0, 0, 0}, {GREATEST, 0, 0, 0}, {0, 0, 0, GREATEST}};
        for (int[] w : wrong) {
            DUE.is("hour(" + w[0] + ", " + w[1] + ", " + w[2] + ", " + w[3] + ")",
                    x.hour(w[0], w[1], w[2], w[3]), HutLift.NONE);
        }
        weather(x, "refused", told);
        x.hour(1, 8, 8, 8);
        weather(x, "another hour", told);
        DUE.is("hour is not known", x.hour(0, -1, -1, -1), 1);
        weather(x, "not known", notTold);
        x.hour(0, -1, 0, 7);
        weather(x, "partly known", partly);
        DUE.is("hour 11", x.hour(11, 9, 9, 9), 1);
        DUE.is("hour 11 is warm", x.lift(0, 0, 11), 41);
    }

    private static void hoursAtFirst() {
        HutLift x = new HutLift();
        x.place(0, 1);
        x.machine(50, 100);
        x.pilot(1, 0);
        Due.rule(x, "w");
        Due.rule(x, "t");
        Due.rule(x, "s");
        int[] first = {0, 0, 9};
        for (int hour = 0; hour < 12; hour++) {
            weather(x, "at first in hour " + hour, first);
            x.minute(60);
        }
    }

    private static void weather(HutLift x, String when, int[] want) {
        for (int i = 0; i < 3; i++) {
            DUE.is("weather " + when + ", " + i, x.says(i, 0, 0, 1), want[i]);
        }
    }

    /** An hour ends where the next begins, but the last one has minute 720 too. */
    private static void hoursBeyond() {
        HutLift x = new HutLift();
        x.place(0, 1);
        x.machine(50, 100);
        x.pilot(1, 0);
        Due.rule(x, "h");
        Due.rule(x, "m");
        hoursAtFirst();
        x.hour(11, 0, 7, 0);
        Due.pass(x, 59);
        DUE.is("minute 59 is in hour 0", x.says(0, 0, 0, 1), 0);
        x.minute(1);
        DUE.is("minute 60 is in hour 1", x.says(0, 0, 0, 1), 1);
        Due.pass(x, 659);
        DUE.is("minute 719 is in hour 11", x.says(0, 0, 0, 1), 11);
        x.minute(1);
        DUE.is("minute 720 is in hour 11", x.says(0, 0, 0, 1), 11);
        DUE.is("minute 720", x.says(1, 0, 0, 1), 720);
        DUE.is("its warmth", x.about(0, 4), 43);
    }
}
