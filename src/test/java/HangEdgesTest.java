/** The edges that the document names of promises 11 and 12: what may be HUNG on what, and taken off. */
public final class HangEdgesTest {
    private static final Due DUE = new Due("HangEdgesTest");
    private static final Twins BUSY = new Twins(DUE, Scenes::busy);
    private static final int NONE = HutLift.NONE, STATE = HutLift.STATE;

    public static void main(String[] args) {
        hangRefusesWhatIsNotThere();
        machineIsFreeByNow();
        loadWaits();
        loadIsReadyByNow();
        loadIsNoDownOne();
        allHaveOnePlace();
        roomIs9AtMost();
        dangerAndLongHangAlone();
        weightIsNotAsked();
        hangCounts();
        offRefusesWhatIsNotThere();
        offRefusesWhatDoesNotHang();
        offCounts();
        whatHangsStaysSo();
        DUE.end();
    }

    private static void hangRefusesWhatIsNotThere() {
        BUSY.range("hang(_, PLAIN)", 0, 2, NONE, (x, n) -> x.hang(n, Scenes.PLAIN));
        BUSY.range("hang(IDLE, _)", 0, 9, NONE, (x, n) -> x.hang(Scenes.IDLE, n));
        BUSY.changesNothing("NONE is ahead of STATE, machine", NONE, x -> x.hang(3, Scenes.DOWN));
        BUSY.changesNothing("NONE is ahead of STATE, load", NONE, x -> x.hang(Scenes.AWAY, 10));
        HutLift x = Scenes.hut(1);
        DUE.is("no LOAD yet", x.hang(0, 0), NONE);
        x.load(101, 1, 0, 0);
        DUE.is("a LOAD", x.hang(0, 0), 1);
        HutLift y = new HutLift();
        y.place(0, 1);
        y.load(101, 1, 0, 0);
        DUE.is("no MACHINE yet", y.hang(0, 0), NONE);
        y.machine(1, 1);
        DUE.is("a MACHINE", y.hang(0, 0), 1);
    }

    private static HutLift flownSince(int minutes) {
        HutLift x = Scenes.hut(10);
        x.load(101, 1, 0, 0);
        x.fly(0, 0, 1);
        x.minute(minutes);
        return x;
    }

    private static void machineIsFreeByNow() {
        BUSY.changesNothing("a MACHINE that is away", STATE, x -> x.hang(Scenes.AWAY, Scenes.PLAIN));
        DUE.is("a minute ahead of SET", flownSince(9).hang(0, 0), STATE);
        DUE.is("at SET", flownSince(10).hang(0, 0), STATE);
        new Twins(DUE, () -> flownSince(21)).changesNothing("a minute ahead of BACK", STATE, x -> x.hang(0, 0));
        DUE.is("at BACK", flownSince(22).hang(0, 0), 1);
        DUE.is("a minute behind BACK", flownSince(23).hang(0, 0), 1);
        HutLift x = Scenes.hut(10);
        x.load(101, 1, 0, 0);
        DUE.is("FREE at 0", x.hang(0, 0), 1);
    }

    private static void loadWaits() {
        BUSY.changesNothing("one that HANGS there", STATE, x -> x.hang(Scenes.LADEN, Scenes.HUNG));
        BUSY.changesNothing("one that HANGS elsewhere", STATE, x -> x.hang(Scenes.IDLE, Scenes.HUNG));
        BUSY.changesNothing("one that FLIES", STATE, x -> x.hang(Scenes.IDLE, Scenes.UPWARD));
        BUSY.changesNothing("one that rides", STATE, x -> x.hang(Scenes.IDLE, Scenes.DOWNWARD));
        BUSY.changesNothing("one that is SHELVED", STATE, x -> x.hang(Scenes.IDLE, Scenes.BROUGHT));
        BUSY.changesNothing("one that is SHELVED in the VALLEY", STATE, x -> x.hang(Scenes.IDLE, Scenes.FETCHED));
        DUE.is("one that WAITS", Scenes.busy().hang(Scenes.IDLE, Scenes.PLAIN), 1);
        HutLift x = Scenes.busy();
        x.off(Scenes.HUNG);
        DUE.is("one that WAITS again", x.hang(Scenes.IDLE, Scenes.HUNG), 1);
    }

    private static HutLift readyAt(int ready, int now) {
        HutLift x = Scenes.hutAt(1, now);
        x.load(101, 1, ready, 0);
        return x;
    }

    private static void loadIsReadyByNow() {
        BUSY.changesNothing("one that is not READY", STATE, x -> x.hang(Scenes.IDLE, Scenes.NOT_READY));
        new Twins(DUE, () -> readyAt(100, 99)).changesNothing("a minute ahead of READY", STATE, x -> x.hang(0, 0));
        DUE.is("at READY", readyAt(100, 100).hang(0, 0), 1);
        DUE.is("a minute behind READY", readyAt(100, 101).hang(0, 0), 1);
        DUE.is("READY 1 at 0", readyAt(1, 0).hang(0, 0), STATE);
        DUE.is("READY 0 at 0", readyAt(0, 0).hang(0, 0), 1);
        DUE.is("READY 720 at 719", readyAt(720, 719).hang(0, 0), STATE);
        DUE.is("READY 720 at 720", readyAt(720, 720).hang(0, 0), 1);
    }

    private static void loadIsNoDownOne() {
        BUSY.changesNothing("a DOWN one", STATE, x -> x.hang(Scenes.IDLE, Scenes.DOWN));
    }

    private static HutLift twoLoads(int first, int second) {
        HutLift x = Scenes.hut(1);
        x.place(0, 1);
        x.load(first, 1, 0, 0);
        x.load(second, 1, 0, 0);
        x.hang(0, 0);
        return x;
    }

    private static void allHaveOnePlace() {
        new Twins(DUE, () -> twoLoads(101, 201)).changesNothing("one for another PLACE", STATE, x -> x.hang(0, 1));
        new Twins(DUE, () -> twoLoads(201, 101)).changesNothing("one for a lesser PLACE", STATE, x -> x.hang(0, 1));
        DUE.is("one for the same PLACE", twoLoads(201, 201).hang(0, 1), 2);
        HutLift x = twoLoads(101, 201);
        x.off(0);
        DUE.is("one for another PLACE when none hangs", x.hang(0, 1), 1);
        DUE.is("then the first is for another PLACE", x.hang(0, 0), STATE);
    }

    private static void roomIs9AtMost() {
        for (int room = 1; room <= 8; room++) {
            int first = 100 + room;
            if (room < 8) {
                DUE.is(room + " and the rest of 8", twoLoads(first, 108 - room).hang(0, 1), 2);
            }
            DUE.is(room + " and the rest of 9", twoLoads(first, 109 - room).hang(0, 1), 2);
            int second = 110 - room;
            new Twins(DUE, () -> twoLoads(first, second))
                    .changesNothing(room + " and one more than 9", STATE, x -> x.hang(0, 1));
        }
        DUE.is("9 and 1", twoLoads(109, 101).hang(0, 1), STATE);
        DUE.is("1 and 9", twoLoads(101, 109).hang(0, 1), STATE);
        HutLift x = Scenes.hut(1);
        for (int load : new int[] {102, 103, 104, 105}) {
            x.load(load, 1, 0, 0);
        }
        x.hang(0, 0);
        x.hang(0, 1);
        DUE.is("2, 3 and 5", x.hang(0, 3), STATE);
        DUE.is("2, 3 and 4", x.hang(0, 2), 3);
        x.off(2);
        DUE.is("2, 3 and 4 again", x.hang(0, 2), 3);
        x.off(0);
        DUE.is("3, 4 and 5", x.hang(0, 3), STATE);
    }

    private static void dangerAndLongHangAlone() {
        for (int kind = 0; kind <= 3; kind++) {
            for (int other = 0; other <= 3; other++) {
                int first = 10000 * kind + 101;
                int second = 10000 * other + 101;
                String what = "KIND " + other + " beside KIND " + kind;
                if (kind == 1 || kind == 3 || other == 1 || other == 3) {
                    new Twins(DUE, () -> twoLoads(first, second)).changesNothing(what, STATE, x -> x.hang(0, 1));
                } else {
                    DUE.is(what, twoLoads(first, second).hang(0, 1), 2);
                }
                HutLift x = twoLoads(first, second);
                x.off(0);
                DUE.is(what + " when that is off", x.hang(0, 1), 1);
            }
        }
        BUSY.changesNothing("a DANGER one beside a COLD one", STATE, x -> x.hang(Scenes.LADEN, Scenes.DANGER));
        BUSY.changesNothing("a LONG one beside a COLD one", STATE, x -> x.hang(Scenes.LADEN, Scenes.LONG));
        DUE.is("a DANGER one alone", Scenes.busy().hang(Scenes.IDLE, Scenes.DANGER), 1);
        DUE.is("a LONG one alone", Scenes.busy().hang(Scenes.IDLE, Scenes.LONG), 1);
    }

    /** What is too heavy may hang; it may not fly. */
    private static void weightIsNotAsked() {
        HutLift x = new HutLift();
        x.place(0, 1);
        x.machine(1, 100);
        x.pilot(720, 0);
        x.load(101, 99, 0, 0);
        DUE.is("99 on a BASE of 1", x.hang(0, 0), 1);
        DUE.is("may not fly", x.may(0, 0, 1), 5);
    }

    private static void hangCounts() {
        HutLift x = Scenes.hut(1);
        x.machine(5, 5);
        for (int i = 0; i < 10; i++) {
            x.load(101, 1, 0, 0);
        }
        for (int i = 0; i < 9; i++) {
            DUE.is("hang(0, " + i + ")", x.hang(0, i), i + 1);
            DUE.is("how many hang", x.about(0, 2), i + 1);
        }
        DUE.is("a tenth", x.hang(0, 9), STATE);
        DUE.is("on another MACHINE", x.hang(1, 9), 1);
    }

    private static void offRefusesWhatIsNotThere() {
        BUSY.range("off(_)", 0, 9, NONE, (x, n) -> x.off(n));
        DUE.is("no LOAD yet", Scenes.hut(1).off(0), NONE);
    }

    private static void offRefusesWhatDoesNotHang() {
        BUSY.changesNothing("one that WAITS", STATE, x -> x.off(Scenes.PLAIN));
        BUSY.changesNothing("a DOWN one that WAITS", STATE, x -> x.off(Scenes.DOWN));
        BUSY.changesNothing("one that FLIES", STATE, x -> x.off(Scenes.UPWARD));
        BUSY.changesNothing("one that rides", STATE, x -> x.off(Scenes.DOWNWARD));
        BUSY.changesNothing("one that is SHELVED", STATE, x -> x.off(Scenes.BROUGHT));
        BUSY.changesNothing("one that is SHELVED in the VALLEY", STATE, x -> x.off(Scenes.FETCHED));
        DUE.is("one that HANGS", Scenes.busy().off(Scenes.HUNG), 0);
    }

    /** Of the machine on which it hung, whichever of those it is. */
    private static void offCounts() {
        for (int first = 0; first < 3; first++) {
            HutLift x = Scenes.hut(1);
            x.machine(5, 5);
            for (int i = 0; i < 4; i++) {
                x.load(101, 1 + i, 0, 0);
                x.hang(i / 3, i);
            }
            DUE.is("off(" + first + ")", x.off(first), 2);
            DUE.is("WEIGHT still", x.about(0, 3), 6 - 1 - first);
            DUE.is("it WAITS", x.cargo(first, 0), 0);
            DUE.is("on no MACHINE", x.cargo(first, 1), -1);
            DUE.is("twice", x.off(first), STATE);
            DUE.is("another", x.off((first + 1) % 3), 1);
            DUE.is("the last", x.off((first + 2) % 3), 0);
            DUE.is("the other MACHINE has its own", x.about(1, 2), 1);
            DUE.is("and loses it", x.off(3), 0);
        }
    }

    private static void whatHangsStaysSo() {
        HutLift x = Scenes.hut(1);
        x.load(20101, 1, 0, 0);
        x.hang(0, 0);
        Due.pass(x, 720);
        DUE.is("it HANGS at 720", x.cargo(0, 0), 1);
        DUE.is("on its MACHINE", x.cargo(0, 1), 0);
        DUE.is("it is not LATE", x.cargo(0, 4), 0);
        DUE.is("it can be taken off", x.off(0), 0);
    }
}
