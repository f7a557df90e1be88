/** Offices that several tests begin with. */
final class Scenes {
    /** What the numbers of busy() stand for. */
    static final int NEAR = 1, HIGH = 2, FAR = 3;
    static final int AWAY = 0, LADEN = 1, IDLE = 2;
    static final int RESTED = 0, FLYING = 1, FRESH = 2;
    static final int BROUGHT = 0, FETCHED = 1, UPWARD = 2, HUNG = 3, PLAIN = 4, LONG = 5, DANGER = 6, DOWNWARD = 7,
            DOWN = 8, NOT_READY = 9;

    private Scenes() {
    }

    /** Minute 40 of a day that has something of everything: loads in each state, rules, a tape, a list, an order found. */
    static HutLift busy() {
        HutLift x = new HutLift();
        x.place(3, 10);
        x.place(8, 25);
        x.place(0, 60);
        x.machine(100, 600);
        x.machine(120, 900);
        x.machine(90, 500);
        x.pilot(400, 15);
        x.pilot(700, 30);
        x.pilot(690, 0);
        x.hour(1, 4, 2, 7);
        x.hour(5, -1, -1, -1);
        busyLoads(x);
        x.list(HIGH);
        x.list(NEAR);
        x.list(HIGH);
        x.order(IDLE, FRESH);
        Due.rule(x, "w6<");
        Due.rule(x, "l 3* m+ f+ 1+");
        Due.feed(x, "s 7+");
        busyMorning(x);
        x.list(FAR);
        x.list(NEAR);
        return x;
    }

    private static void busyLoads(HutLift x) {
        x.load(103, 20, 0, 9);
        x.load(40102, 15, 0, 90);
        x.load(202, 30, 0, 90);
        x.load(20104, 25, 0, 90);
        x.load(106, 10, 0, 90);
        x.load(10201, 10, 0, 90);
        x.load(30101, 10, 0, 90);
        x.load(40203, 12, 0, 90);
        x.load(40207, 11, 0, 90);
        x.load(101, 10, 500, 600);
    }

    private static void busyMorning(HutLift x) {
        x.hang(AWAY, BROUGHT);
        x.fly(AWAY, RESTED, NEAR);
        x.minute(30);
        x.hang(AWAY, UPWARD);
        x.fly(AWAY, FLYING, HIGH);
        x.minute(10);
        x.hang(LADEN, HUNG);
    }

    /** One hut on the VALLEY's height that is way minutes off, a strong machine and a pilot who needs no rest. */
    static HutLift hut(int way) {
        HutLift x = new HutLift();
        x.place(0, way);
        x.machine(200, 2000);
        x.pilot(720, 0);
        return x;
    }

    /** The same at a later minute. */
    static HutLift hutAt(int way, int minute) {
        HutLift x = hut(way);
        Due.pass(x, minute);
        return x;
    }
}
