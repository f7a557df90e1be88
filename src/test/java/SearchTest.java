/** Promises 22 to 25: pack, list, order, ordered. */
public final class SearchTest {
    private static final Due DUE = new Due("SearchTest");
    private static final int NONE = HutLift.NONE, FULL = HutLift.FULL, STATE = HutLift.STATE;

    public static void main(String[] args) {
        packRefused();
        packCounted();
        packAlone();
        packTight();
        packRoom();
        listing();
        orderRefused();
        orderOfOne();
        orderKeepsTheFirst();
        orderByRules();
        orderWaits();
        orderLeavesFree();
        orderFuelAndMost();
        orderFlown();
        orderWithoutRiders();
        orderRoundFixedMinutes();
        DUE.end();
    }

    private static HutLift huts(int... ways) {
        HutLift x = new HutLift();
        for (int way : ways) {
            x.place(0, way);
        }
        x.machine(200, 2000);
        x.pilot(720, 0);
        return x;
    }

    private static void packRefused() {
        HutLift x = huts(5, 5);
        int[][] wrong = {{0, 5}, {-1, 5}, {3, 5}, {1, -1}, {1, 401}, {Integer.MIN_VALUE, 5}, {Integer.MAX_VALUE, 5},
            {1, Integer.MIN_VALUE}, {1, Integer.MAX_VALUE}};
        for (int[] w : wrong) {
            DUE.is("pack(" + w[0] + ", " + w[1] + ")", x.pack(w[0], w[1]), NONE);
        }
        DUE.is("no loads", x.pack(1, 400), 0);
        DUE.is("no loads, no lift", x.pack(1, 0), 0);
        x.load(101, 1, 0, 0);
        DUE.is("no lift", x.pack(1, 0), STATE);
        DUE.is("a lift of 1", x.pack(1, 1), 1);
        x.load(101, 99, 0, 0);
        DUE.is("one too heavy", x.pack(1, 98), STATE);
        DUE.is("none too heavy", x.pack(1, 99), 2);
        DUE.is("both at once", x.pack(1, 100), 1);
        for (int i = 0; i < 7; i++) {
            x.load(101, 1, 0, 0);
        }
        DUE.is("nine", x.pack(1, 400), 1);
        x.load(101, 1, 0, 0);
        DUE.is("ten", x.pack(1, 400), FULL);
        DUE.is("FULL is ahead of STATE", x.pack(1, 0), FULL);
        DUE.is("NONE is ahead of FULL", x.pack(1, 401), NONE);
    }

    /** Only those that WAIT for that place and go up, but also those that are not READY. */
    private static void packCounted() {
        HutLift x = huts(5, 5);
        for (int i = 0; i < 4; i++) {
            x.load(109, 10, i == 3 ? 500 : 0, 0);
        }
        x.load(209, 10, 0, 0);
        x.load(40109, 10, 0, 0);
        x.load(40109, 99, 0, 0);
        DUE.is("four wait", x.pack(1, 50), 4);
        DUE.is("one for the other", x.pack(2, 50), 1);
        x.hang(0, 0);
        DUE.is("one hangs", x.pack(1, 50), 3);
        x.fly(0, 0, 1);
        DUE.is("one flies", x.pack(1, 50), 3);
        x.minute(12);
        DUE.is("one is shelved", x.pack(1, 50), 3);
        x.hang(0, 1);
        x.off(1);
        DUE.is("one waits again", x.pack(1, 50), 3);
        DUE.is("nothing hangs by it", x.about(0, 2), 0);
    }

    private static void packAlone() {
        HutLift x = huts(5);
        x.load(30101, 1, 0, 0);
        DUE.is("danger", x.pack(1, 400), 1);
        x.load(30101, 1, 0, 0);
        DUE.is("two dangers", x.pack(1, 400), 2);
        x.load(101, 1, 0, 0);
        DUE.is("and a plain one", x.pack(1, 400), 3);
        x.load(20101, 1, 0, 0);
        DUE.is("and a cold one", x.pack(1, 400), 3);
        x.load(10101, 1, 0, 0);
        DUE.is("and a long one", x.pack(1, 400), 4);
        x.load(10101, 50, 0, 0);
        DUE.is("a long one too heavy", x.pack(1, 49), STATE);
        DUE.is("a long one not too heavy", x.pack(1, 50), 5);
    }

    /** Each fits only if the nets ahead of it are filled with care. */
    private static void packTight() {
        HutLift x = huts(5);
        for (int weight : new int[] {44, 24, 24, 22, 21, 17, 8, 8, 6}) {
            x.load(101, weight, 0, 0);
        }
        DUE.is("174 in two of 87", x.pack(1, 87), 2);
        DUE.is("174 not in two of 86", x.pack(1, 86), 3);
        DUE.is("174 not in four of 44, though 176 is more", x.pack(1, 44), 5);
        HutLift y = huts(5);
        for (int weight : new int[] {6, 5, 5, 4, 4, 3, 3}) {
            y.load(101, weight, 0, 0);
        }
        DUE.is("30 in three of 10", y.pack(1, 10), 3);
        DUE.is("30 in two of 15", y.pack(1, 15), 2);
        DUE.is("30 not in two of 14", y.pack(1, 14), 3);
        DUE.is("30 in one of 30", y.pack(1, 30), 1);
        DUE.is("each alone", y.pack(1, 6), 6);
    }

    private static void packRoom() {
        HutLift x = huts(5);
        for (int room : new int[] {4, 4, 3, 3, 2, 2}) {
            x.load(100 + room, 1, 0, 0);
        }
        DUE.is("a ROOM of 18 in two", x.pack(1, 400), 2);
        x.load(101, 1, 0, 0);
        DUE.is("a ROOM of 19 in three", x.pack(1, 400), 3);
        HutLift y = huts(5);
        for (int room : new int[] {5, 5, 5}) {
            y.load(100 + room, 1, 0, 0);
        }
        DUE.is("each has more than half", y.pack(1, 400), 3);
    }

    private static void listing() {
        HutLift x = huts(5, 5);
        for (int place : new int[] {0, -1, 3, Integer.MIN_VALUE, Integer.MAX_VALUE}) {
            DUE.is("list(" + place + ")", x.list(place), NONE);
        }
        for (int i = 1; i <= 5; i++) {
            DUE.is("list, " + i, x.list(1 + i % 2), i);
        }
        DUE.is("a sixth", x.list(1), FULL);
        DUE.is("NONE is ahead of FULL", x.list(0), NONE);
        DUE.is("five are flown", x.order(0, 0), 60);
        DUE.is("the list is empty", x.order(0, 0), STATE);
        DUE.is("it begins anew", x.list(1), 1);
    }

    private static void orderIs(HutLift x, String what, int machine, int pilot, int end, int... places) {
        DUE.is(what + ": end", x.order(machine, pilot), end);
        for (int i = 0; i < places.length; i++) {
            DUE.is(what + ": ordered(" + i + ")", x.ordered(i), places[i]);
        }
        DUE.is(what + ": behind it", x.ordered(places.length), NONE);
        DUE.is(what + ": ahead of it", x.ordered(-1), NONE);
    }

    private static void list(HutLift x, int... places) {
        for (int place : places) {
            x.list(place);
        }
    }

    private static void orderRefused() {
        HutLift x = huts(5, 6);
        DUE.is("an empty list", x.order(0, 0), STATE);
        list(x, 2, 1);
        int[][] wrong = {{-1, 0}, {1, 0}, {0, -1}, {0, 1}, {Integer.MIN_VALUE, 0}, {0, Integer.MAX_VALUE}};
        for (int[] w : wrong) {
            DUE.is("order(" + w[0] + ", " + w[1] + ")", x.order(w[0], w[1]), NONE);
        }
        x.load(101, 1, 0, 0);
        x.hang(0, 0);
        DUE.is("something hangs", x.order(0, 0), STATE);
        DUE.is("none was found", x.ordered(0), NONE);
        x.off(0);
        Due.rule(x, "0");
        DUE.is("no way", x.order(0, 0), STATE);
        DUE.is("none was found", x.ordered(0), NONE);
        x.drop();
        orderIs(x, "the list stayed", 0, 0, 26, 1, 2);
        DUE.is("nothing was flown", x.count(5) + x.pilotOf(0, 0) + x.about(0, 1), 0);
        DUE.is("an empty list again", x.order(0, 0), STATE);
        DUE.is("what was found stays", x.ordered(1), 2);
        list(x, 2);
        Due.rule(x, "0");
        DUE.is("no way again", x.order(0, 0), STATE);
        DUE.is("the latest found stays", x.ordered(0), 1);
        DUE.is("the list has one", x.list(2), 2);
        for (int i : new int[] {2, 5, Integer.MIN_VALUE, Integer.MAX_VALUE}) {
            DUE.is("ordered(" + i + ")", x.ordered(i), NONE);
        }
    }

    private static void orderOfOne() {
        HutLift x = huts(60, 1);
        list(x, 1);
        orderIs(x, "one", 0, 0, 122, 1);
        Due.pass(x, 598);
        list(x, 1);
        orderIs(x, "the last that can be", 0, 0, 720, 1);
        x.minute(1);
        list(x, 1);
        DUE.is("too late", x.order(0, 0), STATE);
    }

    private static void orderKeepsTheFirst() {
        HutLift x = huts(5, 4, 3, 2, 1);
        list(x, 5, 3, 1, 4, 2);
        orderIs(x, "all orders end alike", 0, 0, 40, 1, 2, 3, 4, 5);
        list(x, 4, 2, 4, 2, 4);
        orderIs(x, "some come twice", 0, 0, 38, 2, 2, 4, 4, 4);
    }

    /** Place 1 only from hour 1 on, so the longer ways go ahead. */
    private static void orderByRules() {
        HutLift x = huts(10, 10, 18);
        Due.rule(x, "p1=! h0> |");
        list(x, 1, 2, 3);
        orderIs(x, "the first place waits", 0, 0, 82, 2, 3, 1);
        Due.rule(x, "p3=! m 22 = |");
        list(x, 1, 2, 3);
        orderIs(x, "the third at 22 alone", 0, 0, 82, 2, 3, 1);
        x.drop();
        Due.rule(x, "p3=! m 23 = |");
        list(x, 3, 2, 1);
        orderIs(x, "the third at 23 alone", 0, 0, 83, 2, 3, 1);
        x.drop();
        Due.rule(x, "p3=! m 0 = |");
        list(x, 3, 2, 1);
        orderIs(x, "the third at once", 0, 0, 82, 3, 2, 1);
        x.drop();
        Due.rule(x, "w 5 <");
        x.hour(1, 9, 0, 0);
        list(x, 1);
        orderIs(x, "wind in hour 1", 0, 0, 142, 1);
    }

    private static void orderWaits() {
        HutLift x = huts(10);
        x.hour(0, 9, 0, 0);
        x.hour(1, 9, 0, 0);
        x.hour(3, 9, 0, 0);
        Due.rule(x, "w9=!");
        list(x, 1, 1, 1, 1);
        orderIs(x, "between the winds", 0, 0, 262, 1, 1, 1, 1);
        x.drop();
        Due.rule(x, "m 697 >");
        list(x, 1);
        orderIs(x, "the last minute", 0, 0, 720, 1);
        x.drop();
        Due.rule(x, "m 698 >");
        list(x, 1);
        DUE.is("a minute too late", x.order(0, 0), STATE);
        x.drop();
        Due.rule(x, "m p * 17 = m 400 = |");
        orderIs(x, "one minute or another", 0, 0, 39, 1);
    }

    private static void orderLeavesFree() {
        HutLift x = huts(10, 20);
        x.pilot(720, 15);
        x.machine(200, 2000);
        list(x, 1, 2);
        orderIs(x, "a rest between them", 0, 1, 79, 1, 2);
        x.fly(0, 0, 1);
        list(x, 1);
        orderIs(x, "the machine is away", 0, 1, 44, 1);
        x.fly(1, 1, 1);
        x.minute(22);
        list(x, 1);
        orderIs(x, "the pilot rests", 0, 1, 59, 1);
        list(x, 1);
        orderIs(x, "the other does not", 0, 0, 44, 1);
    }

    private static void orderFuelAndMost() {
        HutLift x = new HutLift();
        x.place(0, 10);
        x.place(0, 5);
        x.machine(100, 70);
        x.machine(100, 69);
        x.pilot(34, 0);
        x.pilot(33, 0);
        list(x, 1, 2);
        DUE.is("too little fuel", x.order(1, 0), STATE);
        DUE.is("MOST too small", x.order(0, 1), STATE);
        orderIs(x, "just enough", 0, 0, 34, 1, 2);
        x.fly(0, 0, 2);
        x.minute(12);
        list(x, 1);
        DUE.is("fuel of 50 is enough", x.order(0, 0), 34);
        list(x, 1, 2);
        DUE.is("fuel of 50 is too little", x.order(0, 0), STATE);
        x.fuel(0);
        DUE.is("MOST is used up", x.order(0, 0), STATE);
    }

    /** f is as the flights ahead leave it. */
    private static void orderFlown() {
        HutLift x = huts(10, 20);
        Due.rule(x, "p1=! f42= |");
        list(x, 1, 2);
        orderIs(x, "the second place first", 0, 0, 64, 2, 1);
        Due.rule(x, "n l + k + !");
        list(x, 2, 1);
        orderIs(x, "nothing hangs", 0, 0, 64, 2, 1);
        x.fly(0, 0, 2);
        x.minute(42);
        list(x, 1);
        orderIs(x, "flown ahead of it", 0, 0, 64, 1);
        list(x, 1, 1);
        DUE.is("the second time it is 64", x.order(0, 0), STATE);
    }

    private static void orderWithoutRiders() {
        HutLift x = new HutLift();
        x.place(0, 10);
        x.machine(100, 50);
        x.machine(100, 50);
        x.pilot(720, 0);
        x.load(40101, 99, 0, 0);
        x.load(101, 9, 0, 0);
        x.hang(1, 1);
        list(x, 1);
        DUE.is("with a rider it could not be", x.may(0, 0, 1), 6);
        orderIs(x, "without riders", 0, 0, 22, 1);
        Due.rule(x, "n l + k + !");
        list(x, 1);
        DUE.is("something hangs on the other machine", x.says(0, 1, 0, 1), 0);
        orderIs(x, "nothing on this one", 0, 0, 22, 1);
    }

    /** The one that can be but at some minutes has its place among the others by them. */
    private static void orderRoundFixedMinutes() {
        HutLift x = huts(29, 1, 14);
        Due.rule(x, "p2=! m 3 < |");
        list(x, 1, 2, 3);
        orderIs(x, "the short one at once", 0, 0, 94, 2, 1, 3);
        x.drop();
        Due.rule(x, "p2=! m 59 > m 64 < & | m 3 < |");
        list(x, 1, 2, 3);
        orderIs(x, "the short one at once or at 60", 0, 0, 94, 1, 2, 3);
        x.drop();
        Due.rule(x, "p2=! m 31 > m 35 < & |");
        list(x, 1, 2, 3);
        orderIs(x, "the short one at 32", 0, 0, 96, 3, 2, 1);
        HutLift y = huts(29, 1, 14);
        Due.rule(y, "p2=! m 60 = |");
        list(y, 3, 1, 2);
        orderIs(y, "the short one at 60", 0, 0, 94, 1, 2, 3);
    }
}
