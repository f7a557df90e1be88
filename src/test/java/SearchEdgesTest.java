/** The edges that the document names of promises 22 to 25: PACK, THE LIST, ORDER and what it found. */
public final class SearchEdgesTest {
    private static final Due DUE = new Due("SearchEdgesTest");
    private static final Twins BUSY = new Twins(DUE, Scenes::busy);
    private static final int NONE = HutLift.NONE, FULL = HutLift.FULL, STATE = HutLift.STATE;

    public static void main(String[] args) {
        packRefuses();
        packOf0To9();
        packCountsThoseThatWait();
        packAnswersInTheirOrder();
        packWithinLift();
        packWithinTheGreatestLift();
        packWithinRoom();
        packDangerAndLongAlone();
        packOneTooHeavy();
        listRefuses();
        listHas5();
        orderRefuses();
        orderOfAnEmptyList();
        orderWhileSomethingHangs();
        orderFrom1To5Places();
        orderBack720();
        orderOfSeveralBack720();
        orderFuel();
        orderMost();
        orderFromFreeOn();
        orderRestIsBetweenFlights();
        orderAtTheFirstMinute();
        orderAtTheFirstMinuteOfAnHour();
        orderWithoutWhy3And5And8();
        orderOfTwoAlike();
        orderTheLeastEnd();
        orderTheFirstOfThoseWithTheLeastEnd();
        orderWithoutAWay();
        orderEmptiesTheList();
        orderChangesNothingElse();
        orderedRefuses();
        orderedIsTheLatestFound();
        DUE.end();
    }

    private static void packRefuses() {
        BUSY.range("pack(_, 60)", 1, 3, NONE, (x, n) -> x.pack(n, 60));
        BUSY.range("pack(1, _)", 0, 400, NONE, (x, n) -> x.pack(1, n));
    }

    private static HutLift officeWithLoads(int n, int... whats) {
        HutLift x = Scenes.hut(5);
        for (int i = 0; i < n; i++) {
            x.load(whats[i % whats.length], 10, 0, 0);
        }
        return x;
    }

    private static void packOf0To9() {
        DUE.is("no LOADS", officeWithLoads(0).pack(1, 400), 0);
        DUE.is("no LOADS and no LIFT", officeWithLoads(0).pack(1, 0), 0);
        DUE.is("one LOAD", officeWithLoads(1, 101).pack(1, 400), 1);
        DUE.is("eight LOADS", officeWithLoads(8, 101).pack(1, 400), 1);
        DUE.is("nine LOADS", officeWithLoads(9, 101).pack(1, 400), 1);
        DUE.is("nine NETS", officeWithLoads(9, 101).pack(1, 10), 9);
        DUE.is("nine NETS by ROOM", officeWithLoads(9, 105).pack(1, 400), 9);
        DUE.is("nine NETS by KIND", officeWithLoads(9, 30101, 10101).pack(1, 400), 9);
        new Twins(DUE, () -> officeWithLoads(10, 101)).changesNothing("ten LOADS", FULL, x -> x.pack(1, 400));
        new Twins(DUE, () -> officeWithLoads(80, 101)).changesNothing("eighty LOADS", FULL, x -> x.pack(1, 400));
    }

    /** Ten are too many only if all ten WAIT, go up, and to that PLACE. */
    private static void packCountsThoseThatWait() {
        DUE.is("a DOWN one is none", officeWithLoads(10, 101, 101, 101, 101, 101, 101, 101, 101, 101, 40101).pack(1, 400), 1);
        HutLift x = officeWithLoads(10, 101);
        x.place(0, 5);
        x.load(201, 99, 0, 0);
        x.hang(0, 3);
        DUE.is("one that HANGS is none", x.pack(1, 400), 1);
        x.off(3);
        DUE.is("it WAITS again", x.pack(1, 400), FULL);
        x.hang(0, 3);
        x.fly(0, 0, 1);
        DUE.is("one that FLIES is none", x.pack(1, 400), 1);
        x.minute(5);
        DUE.is("one that is SHELVED is none", x.pack(1, 400), 1);
        DUE.is("of the other PLACE", x.pack(2, 400), 1);
        x.load(101, 1, 720, 720);
        DUE.is("one that is not READY is one", x.pack(1, 400), FULL);
    }

    private static void packAnswersInTheirOrder() {
        Twins full = new Twins(DUE, () -> officeWithLoads(10, 101));
        full.changesNothing("FULL is ahead of STATE", FULL, x -> x.pack(1, 0));
        full.changesNothing("NONE is ahead of FULL, lift", NONE, x -> x.pack(1, 401));
        full.changesNothing("NONE is ahead of FULL, place", NONE, x -> x.pack(2, 400));
        Twins nine = new Twins(DUE, () -> officeWithLoads(9, 101));
        nine.changesNothing("NONE is ahead of STATE", NONE, x -> x.pack(1, -1));
    }

    private static int packed(int lift, int... weights) {
        HutLift x = Scenes.hut(5);
        for (int weight : weights) {
            x.load(101, weight, 0, 0);
        }
        return x.pack(1, lift);
    }

    private static void packWithinLift() {
        DUE.is("30 and 30 within 59", packed(59, 30, 30), 2);
        DUE.is("30 and 30 within 60", packed(60, 30, 30), 1);
        DUE.is("30 and 30 within 61", packed(61, 30, 30), 1);
        DUE.is("nine of 99 within 99", packed(99, 99, 99, 99, 99, 99, 99, 99, 99, 99), 9);
        DUE.is("nine of 99 within 197", packed(197, 99, 99, 99, 99, 99, 99, 99, 99, 99), 9);
        DUE.is("nine of 99 within 198", packed(198, 99, 99, 99, 99, 99, 99, 99, 99, 99), 5);
        DUE.is("nine of 99 within 297", packed(297, 99, 99, 99, 99, 99, 99, 99, 99, 99), 3);
        DUE.is("first come is not the fewest, 10", packed(10, 4, 4, 6, 6), 2);
        DUE.is("the heaviest first is not the fewest, 12", packed(12, 6, 5, 4, 3, 3, 3), 2);
        DUE.is("one less, 11", packed(11, 6, 5, 4, 3, 3, 3), 3);
    }

    private static void packWithinTheGreatestLift() {
        DUE.is("400 within 400", packed(400, 99, 99, 99, 99, 4), 1);
        DUE.is("401 within 400", packed(400, 99, 99, 99, 99, 5), 2);
        DUE.is("400 within 399", packed(399, 99, 99, 99, 99, 4), 2);
    }

    private static int packedRooms(int... rooms) {
        HutLift x = Scenes.hut(5);
        for (int room : rooms) {
            x.load(100 + room, 1, 0, 0);
        }
        return x.pack(1, 400);
    }

    private static void packWithinRoom() {
        DUE.is("ROOM 4 and 4", packedRooms(4, 4), 1);
        DUE.is("ROOM 4 and 5", packedRooms(4, 5), 1);
        DUE.is("ROOM 5 and 5", packedRooms(5, 5), 2);
        DUE.is("ROOM 9 and 1", packedRooms(9, 1), 2);
        DUE.is("ROOM 18 in two", packedRooms(3, 3, 4, 4, 2, 2), 2);
        DUE.is("ROOM 18 not in two", packedRooms(5, 5, 5, 3), 3);
        DUE.is("nine of ROOM 1", packedRooms(1, 1, 1, 1, 1, 1, 1, 1, 1), 1);
        DUE.is("eight of ROOM 1 and one of 2", packedRooms(1, 1, 1, 1, 1, 1, 1, 1, 2), 2);
    }

    private static void packDangerAndLongAlone() {
        for (int kind = 0; kind <= 3; kind++) {
            for (int other = 0; other <= 3; other++) {
                boolean alone = kind == 1 || kind == 3 || other == 1 || other == 3;
                HutLift x = officeWithLoads(2, 10000 * kind + 101, 10000 * other + 101);
                DUE.is("KIND " + kind + " and KIND " + other, x.pack(1, 400), alone ? 2 : 1);
            }
        }
    }

    private static HutLift oneHeavy(int kind, int weight) {
        HutLift x = officeWithLoads(3, 101);
        x.load(10000 * kind + 101, weight, 0, 0);
        return x;
    }

    private static void packOneTooHeavy() {
        for (int kind = 0; kind <= 3; kind++) {
            int one = kind;
            new Twins(DUE, () -> oneHeavy(one, 50))
                    .changesNothing("50 within 49, KIND " + kind, STATE, x -> x.pack(1, 49));
            DUE.is("50 within 50, KIND " + kind, oneHeavy(kind, 50).pack(1, 50), 2);
        }
        DUE.is("a DOWN one is not asked", oneHeavy(4, 99).pack(1, 30), 1);
        DUE.is("1 within 0", packed(0, 1), STATE);
        DUE.is("1 within 1", packed(1, 1), 1);
        DUE.is("99 within 98", packed(98, 99), STATE);
        DUE.is("99 within 99", packed(99, 99), 1);
    }

    private static void listRefuses() {
        BUSY.range("list(_)", 1, 3, NONE, (x, n) -> x.list(n));
        DUE.is("no PLACE but the VALLEY", new HutLift().list(0), NONE);
    }

    private static HutLift listed(int... places) {
        HutLift x = Scenes.hut(1);
        x.place(0, 2);
        x.place(0, 3);
        for (int place : places) {
            x.list(place);
        }
        return x;
    }

    private static void listHas5() {
        HutLift x = listed();
        for (int i = 1; i <= 5; i++) {
            DUE.is("PLACE " + i + " of THE LIST", x.list(3), i);
        }
        Twins full = new Twins(DUE, () -> listed(1, 2, 3, 2, 1));
        full.changesNothing("a sixth", FULL, y -> y.list(3));
        full.changesNothing("NONE is ahead of FULL", NONE, y -> y.list(0));
        full.changesNothing("NONE is ahead of FULL", NONE, y -> y.list(4));
    }

    private static void orderRefuses() {
        BUSY.range("order(_, 0)", 0, 2, NONE, (x, n) -> x.order(n, 0));
        BUSY.range("order(IDLE, _)", 0, 2, NONE, (x, n) -> x.order(Scenes.IDLE, n));
        Twins empty = new Twins(DUE, SearchEdgesTest::listed);
        empty.changesNothing("NONE is ahead of STATE, machine", NONE, x -> x.order(1, 0));
        empty.changesNothing("NONE is ahead of STATE, pilot", NONE, x -> x.order(0, 1));
        BUSY.changesNothing("NONE is ahead of STATE, hanging", NONE, x -> x.order(Scenes.LADEN, 3));
    }

    private static void orderOfAnEmptyList() {
        new Twins(DUE, SearchEdgesTest::listed).changesNothing("an empty LIST", STATE, x -> x.order(0, 0));
        DUE.is("a LIST of one", listed(1).order(0, 0), 4);
    }

    private static void orderWhileSomethingHangs() {
        BUSY.changesNothing("something hangs", STATE, x -> x.order(Scenes.LADEN, Scenes.FRESH));
        HutLift x = Scenes.busy();
        DUE.is("on another MACHINE", x.order(Scenes.IDLE, Scenes.FRESH), 40 + 122 + 22);
        HutLift y = Scenes.busy();
        y.off(Scenes.HUNG);
        DUE.is("no more", y.order(Scenes.LADEN, Scenes.FRESH), 40 + 122 + 22);
    }

    private static void orderIs(String what, HutLift x, int end, int... places) {
        DUE.is(what, x.order(0, 0), end);
        for (int i = 0; i < places.length; i++) {
            DUE.is(what + ": ordered(" + i + ")", x.ordered(i), places[i]);
        }
        DUE.is(what + ": behind the last", x.ordered(places.length), NONE);
    }

    private static void orderFrom1To5Places() {
        orderIs("one", listed(3), 8, 3);
        orderIs("two", listed(3, 1), 12, 1, 3);
        orderIs("three", listed(3, 2, 1), 18, 1, 2, 3);
        orderIs("four", listed(3, 2, 1, 2), 24, 1, 2, 2, 3);
        orderIs("five", listed(3, 2, 1, 2, 3), 32, 1, 2, 2, 3, 3);
        orderIs("five alike", listed(2, 2, 2, 2, 2), 30, 2, 2, 2, 2, 2);
    }

    private static HutLift at(HutLift x, int minute) {
        Due.pass(x, minute);
        return x;
    }

    private static void orderBack720() {
        orderIs("BACK at 719", at(listed(3), 711), 719, 3);
        orderIs("BACK at 720", at(listed(3), 712), 720, 3);
        new Twins(DUE, () -> at(listed(3), 713)).changesNothing("BACK at 721", STATE, x -> x.order(0, 0));
        new Twins(DUE, () -> at(listed(1), 720)).changesNothing("at 720", STATE, x -> x.order(0, 0));
    }

    private static HutLift resting(int rest, int... places) {
        HutLift x = new HutLift();
        x.place(0, 1);
        x.place(0, 2);
        x.machine(200, 2000);
        x.pilot(720, rest);
        for (int place : places) {
            x.list(place);
        }
        return x;
    }

    private static void orderOfSeveralBack720() {
        orderIs("three, BACK at 720", at(listed(3, 2, 1), 702), 720, 1, 2, 3);
        DUE.is("three, BACK at 721", at(listed(3, 2, 1), 703).order(0, 0), STATE);
        orderIs("a REST between, BACK at 720", at(resting(50, 1, 2), 660), 720, 1, 2);
        DUE.is("a REST between, BACK at 721", at(resting(50, 1, 2), 661).order(0, 0), STATE);
        orderIs("a REST behind is beyond 720", at(resting(120, 1), 716), 720, 1);
    }

    /** WAYS 1 and 2: 4 and 8 are burnt. */
    private static HutLift fuelled(int tank, int most, int... places) {
        HutLift x = new HutLift();
        x.place(0, 1);
        x.place(0, 2);
        x.machine(200, tank);
        x.pilot(most, 0);
        for (int place : places) {
            x.list(place);
        }
        return x;
    }

    private static void orderFuel() {
        new Twins(DUE, () -> fuelled(13, 720, 1)).changesNothing("4 and 9", STATE, x -> x.order(0, 0));
        orderIs("4 and 10", fuelled(14, 720, 1), 4, 1);
        new Twins(DUE, () -> fuelled(21, 720, 2, 1)).changesNothing("4, 8 and 9", STATE, x -> x.order(0, 0));
        orderIs("4, 8 and 10", fuelled(22, 720, 2, 1), 10, 1, 2);
        orderIs("4, 8 and 11", fuelled(23, 720, 2, 1), 10, 1, 2);
        DUE.is("4 five times and 9", fuelled(29, 720, 1, 1, 1, 1, 1).order(0, 0), STATE);
        DUE.is("4 five times and 10", fuelled(30, 720, 1, 1, 1, 1, 1).order(0, 0), 20);
        HutLift x = fuelled(22, 720, 2, 1);
        x.fly(0, 0, 1);
        DUE.is("FUEL is less by a flight", x.order(0, 0), STATE);
        x.minute(4);
        DUE.is("no FUEL has come", x.order(0, 0), STATE);
        x.fuel(0);
        DUE.is("FUEL has come", x.order(0, 0), 14);
    }

    private static void orderMost() {
        new Twins(DUE, () -> fuelled(2000, 3, 1)).changesNothing("4 of 3", STATE, x -> x.order(0, 0));
        orderIs("4 of 4", fuelled(2000, 4, 1), 4, 1);
        new Twins(DUE, () -> fuelled(2000, 9, 1, 2)).changesNothing("10 of 9", STATE, x -> x.order(0, 0));
        orderIs("10 of 10", fuelled(2000, 10, 1, 2), 10, 1, 2);
        orderIs("10 of 11", fuelled(2000, 11, 1, 2), 10, 1, 2);
        new Twins(DUE, () -> fuelled(2000, 0, 1)).changesNothing("4 of 0", STATE, x -> x.order(0, 0));
        HutLift x = fuelled(2000, 13, 1, 2);
        x.fly(0, 0, 1);
        DUE.is("4 and 10 of 13", x.order(0, 0), STATE);
        HutLift y = fuelled(2000, 14, 1, 2);
        y.fly(0, 0, 1);
        DUE.is("4 and 10 of 14", y.order(0, 0), 14);
    }

    /** From the minute on at which both are FREE, be it now, behind now or long ago. */
    private static void orderFromFreeOn() {
        HutLift x = Scenes.hut(10);
        x.machine(200, 2000);
        x.pilot(720, 15);
        x.fly(0, 1, 1);
        x.list(1);
        DUE.is("the MACHINE is FREE at 22", x.order(0, 0), 44);
        x.list(1);
        DUE.is("the PILOT is FREE at 37", x.order(1, 1), 59);
        x.list(1);
        DUE.is("both: at 37", x.order(0, 1), 59);
        x.list(1);
        DUE.is("others are FREE now", x.order(1, 0), 22);
        x.minute(36);
        x.list(1);
        DUE.is("a minute ahead of FREE", x.order(0, 1), 59);
        x.minute(1);
        x.list(1);
        DUE.is("at FREE", x.order(0, 1), 59);
        x.minute(1);
        x.list(1);
        DUE.is("a minute behind FREE", x.order(0, 1), 60);
    }

    private static void orderRestIsBetweenFlights() {
        orderIs("no REST", resting(0, 1, 1), 8, 1, 1);
        orderIs("a REST of 1", resting(1, 1, 1), 9, 1, 1);
        orderIs("a REST of 120", resting(120, 1, 1), 128, 1, 1);
        orderIs("a REST of 120, but no flight behind it", resting(120, 1), 4, 1);
    }

    private static HutLift ruled(String rule, int... places) {
        HutLift x = listed(places);
        Due.rule(x, rule);
        return x;
    }

    private static void orderAtTheFirstMinute() {
        orderIs("at 0", ruled("m0=", 1), 4, 1);
        orderIs("at 1", ruled("m0>", 1), 5, 1);
        orderIs("at 1 by m alone", ruled("m", 1), 5, 1);
        orderIs("at 300 alone", ruled("m300=", 1), 304, 1);
        orderIs("at 716", ruled("m715>", 1), 720, 1);
        DUE.is("at 717", ruled("m716>", 1).order(0, 0), STATE);
        DUE.is("behind the minute", at(ruled("m300=", 1), 301).order(0, 0), STATE);
        orderIs("at the minute", at(ruled("m300=", 1), 300), 304, 1);
        orderIs("ahead of the minute", at(ruled("m300=", 1), 299), 304, 1);
        orderIs("the first of two", ruled("m50=m60=|", 1), 54, 1);
        orderIs("two of two", ruled("m50=m60=|", 1, 1), 64, 1, 1);
        DUE.is("three of two", ruled("m50=m60=|", 1, 1, 1).order(0, 0), STATE);
        orderIs("BACK of the first is the second's minute", ruled("m50=m54=|", 1, 1), 58, 1, 1);
        DUE.is("BACK of the first is behind it", ruled("m50=m53=|", 1, 1).order(0, 0), STATE);
    }

    private static void orderAtTheFirstMinuteOfAnHour() {
        for (int hour = 0; hour < 12; hour++) {
            orderIs("HOUR " + hour, ruled("h" + hour + "=", 1), 60 * hour + 4, 1);
            orderIs("HOUR " + hour + " from 7 on", at(ruled("h" + hour + "=", 1), 7), Math.max(7, 60 * hour) + 4, 1);
        }
        orderIs("the last minute of HOUR 0", at(ruled("h0=", 1), 59), 63, 1);
        DUE.is("behind HOUR 0", at(ruled("h0=", 1), 60).order(0, 0), STATE);
        HutLift x = ruled("w5<s3>&t4<&", 1);
        x.hour(0, 5, 0, 9);
        x.hour(1, 4, 0, 3);
        x.hour(2, 4, 4, 4);
        x.hour(3, 4, 3, 4);
        orderIs("the HOUR that has all", x, 184, 1);
    }

    /** Riders that are too heavy, loads for elsewhere and what is COLD are of no weight: nothing hangs or rides. */
    private static void orderWithoutWhy3And5And8() {
        HutLift x = new HutLift();
        x.place(9, 1);
        x.machine(1, 14);
        x.pilot(720, 0);
        x.load(40101, 1, 0, 0);
        x.load(20101, 99, 0, 0);
        x.hour(0, 9, 9, 0);
        x.list(1);
        DUE.is("a LIFT of 0", x.lift(0, 1, 0), 0);
        orderIs("nothing hangs", x, 4, 1);
        HutLift y = new HutLift();
        y.place(0, 1);
        y.machine(200, 14);
        y.pilot(720, 0);
        y.load(40101, 99, 0, 0);
        y.list(1);
        DUE.is("with a rider FUEL is too little", y.may(0, 0, 1), 6);
        orderIs("without riders it is not", y, 4, 1);
        HutLift z = ruled("n!l!&k!&", 1);
        z.load(40101, 9, 0, 0);
        orderIs("n, l and k are 0", z, 4, 1);
        HutLift other = ruled("n!l!&k!&", 1);
        other.machine(200, 2000);
        other.load(20101, 9, 0, 0);
        other.hang(1, 0);
        DUE.is("something hangs on another MACHINE", other.says(0, 1, 0, 1), 0);
        orderIs("n, l and k are 0 all the same", other, 4, 1);
    }

    private static void orderOfTwoAlike() {
        orderIs("one comes twice", listed(2, 1, 2), 16, 1, 2, 2);
        orderIs("one comes twice, and has but its minutes", ruled("p2=!m0=|m10=|", 2, 1, 2), 16, 2, 1, 2);
    }

    private static void orderTheLeastEnd() {
        orderIs("3 only at 0", ruled("p3=!m0=|", 1, 2, 3), 18, 3, 1, 2);
        orderIs("1 only from 10 on", ruled("p1=!m9>|", 1, 2, 3), 18, 2, 3, 1);
        orderIs("1 only at 6", ruled("p1=!m6=|", 1, 2, 3), 18, 2, 1, 3);
        orderIs("1 only at 7, by a minute", ruled("p1=!m7=|", 1, 2, 3), 19, 2, 1, 3);
        orderIs("1 only from 14 on: the end is the same", ruled("p1=!m13>|", 1, 2, 3), 18, 2, 3, 1);
        orderIs("1 only from 15 on: the end is later", ruled("p1=!m14>|", 1, 2, 3), 19, 2, 3, 1);
    }

    private static void orderTheFirstOfThoseWithTheLeastEnd() {
        orderIs("all end alike", listed(3, 2, 1), 18, 1, 2, 3);
        orderIs("2 may not be ahead", ruled("p2=!f3>|", 1, 2, 3), 18, 1, 2, 3);
        orderIs("1 may not be ahead", ruled("p1=!f0>|", 1, 2, 3), 18, 2, 1, 3);
        orderIs("1 may not be the second either", ruled("p1=!f8>|", 1, 2, 3), 18, 2, 3, 1);
        orderIs("1 must be behind 3 alone", ruled("p1=!f8=|", 1, 2, 3), 18, 3, 1, 2);
        orderIs("all wait for the same minute", ruled("m100>f|", 1, 2, 3), 119, 1, 2, 3);
    }

    private static void orderWithoutAWay() {
        new Twins(DUE, () -> ruled("0", 1, 2)).changesNothing("a RULE gives 0", STATE, x -> x.order(0, 0));
        new Twins(DUE, () -> ruled("p2=!", 1, 2)).changesNothing("a RULE bars one", STATE, x -> x.order(0, 0));
        new Twins(DUE, () -> ruled("f!", 1, 2)).changesNothing("a RULE bars the second", STATE, x -> x.order(0, 0));
        orderIs("it bars none of one", ruled("f!", 1), 4, 1);
    }

    private static void orderEmptiesTheList() {
        HutLift x = listed(1, 2);
        DUE.is("found", x.order(0, 0), 10);
        DUE.is("THE LIST is empty", x.order(0, 0), STATE);
        DUE.is("the next is the first", x.list(3), 1);
        HutLift y = ruled("0", 1, 2);
        DUE.is("not found", y.order(0, 0), STATE);
        DUE.is("THE LIST stays", y.list(3), 3);
        HutLift z = listed(1, 2);
        DUE.is("no such MACHINE", z.order(7, 0), NONE);
        DUE.is("THE LIST stays", z.list(3), 3);
    }

    /** It tells when flights could be; none begins. */
    private static void orderChangesNothingElse() {
        HutLift x = listed(1, 2);
        x.order(0, 0);
        DUE.is("FLIGHTS", x.count(5), 0);
        DUE.is("MINUTE", x.count(6), 0);
        DUE.is("FUEL", x.about(0, 0), 2000);
        DUE.is("FREE of the MACHINE", x.about(0, 1), 0);
        DUE.is("FLOWN", x.pilotOf(0, 0), 0);
        DUE.is("FREE of the PILOT", x.pilotOf(0, 1), 0);
        DUE.is("a flight may be", x.may(0, 0, 1), 0);
    }

    private static void orderedRefuses() {
        BUSY.range("ordered(_)", 0, 2, NONE, (x, n) -> x.ordered(n));
        for (int i = -1; i <= 5; i++) {
            DUE.is("before any: ordered(" + i + ")", listed(1, 2).ordered(i), NONE);
        }
        HutLift x = ruled("0", 1);
        x.order(0, 0);
        DUE.is("none was found yet", x.ordered(0), NONE);
        HutLift y = listed(1, 1, 2, 2, 3);
        y.order(0, 0);
        DUE.is("the last of five", y.ordered(4), 3);
        DUE.is("a sixth", y.ordered(5), NONE);
    }

    private static void orderedIsTheLatestFound() {
        HutLift x = listed(1, 2, 3);
        x.order(0, 0);
        x.list(2);
        DUE.is("THE LIST is not what was found", x.ordered(0), 1);
        DUE.is("a shorter one", x.order(0, 0), 6);
        DUE.is("is told now", x.ordered(0), 2);
        DUE.is("with none behind it", x.ordered(1), NONE);
        x.list(3);
        Due.rule(x, "0");
        DUE.is("none is found", x.order(0, 0), STATE);
        DUE.is("what was found stays", x.ordered(0), 2);
        DUE.is("and no more", x.ordered(1), NONE);
    }
}
