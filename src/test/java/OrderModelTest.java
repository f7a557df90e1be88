import java.util.Random;

/** Promises 24 and 25 where rules open and close minutes, hours, places and FLOWN, so that the ends of orders differ. */
public final class OrderModelTest {
    private static final Due DUE = new Due("OrderModelTest");

    public static void main(String[] args) {
        int notByNumbers = 0;
        for (int seed = 0; seed < 700; seed++) {
            notByNumbers += compare(new Random(seed), seed) ? 1 : 0;
        }
        DUE.holds("only " + notByNumbers + " orders are not by numbers", notByNumbers > 150);
        DUE.end();
    }

    private static String ruleBy(Random chance, int places) {
        int place = 1 + chance.nextInt(places);
        int from = chance.nextInt(300);
        int hour = chance.nextInt(5);
        switch (chance.nextInt(8)) {
            case 0: return "p" + place + "=!m " + from + ">|";
            case 1: return "p" + place + "=!m " + from + "<|";
            case 2: return "p" + place + "=!h " + hour + "=!|";
            case 3: return "p" + place + "=!h " + hour + ">|";
            case 4: return "w 6<p" + place + "=|";
            case 5: return "p" + place + "=!f " + chance.nextInt(120) + "<|";
            case 6: return "p" + place + "=!f " + chance.nextInt(60) + ">|m " + from + ">|";
            default: return "e3>s 3>|";
        }
    }

    private static boolean compare(Random chance, int seed) {
        HutLift fast = new HutLift();
        SlowOffice slow = new SlowOffice();
        int places = 2 + chance.nextInt(5);
        for (int i = 0; i < places; i++) {
            int height = chance.nextInt(10);
            int way = 1 + chance.nextInt(25);
            fast.place(height, way);
            slow.place(height, way);
        }
        int rest = chance.nextInt(3) * chance.nextInt(20);
        fast.machine(100, 2000);
        slow.machine(100, 2000);
        fast.pilot(720, rest);
        slow.pilot(720, rest);
        for (int hour = 0; hour < 12; hour++) {
            int wind = chance.nextInt(10);
            int sight = chance.nextInt(10);
            fast.hour(hour, wind, 0, sight);
            slow.hour(hour, wind, 0, sight);
        }
        for (int i = chance.nextInt(6); i >= 0; i--) {
            String text = ruleBy(chance, places);
            DUE.holds(text, Due.rule(fast, text) >= 0);
            slow.tape = text;
            slow.rule();
        }
        return comparedOrder(chance, fast, slow, places, seed);
    }

    private static boolean comparedOrder(Random chance, HutLift fast, SlowOffice slow, int places, int seed) {
        for (int i = chance.nextInt(2); i < 4; i++) {
            int place = 1 + chance.nextInt(places);
            DUE.is("seed " + seed + ": list", fast.list(place), slow.list(place));
        }
        DUE.is("seed " + seed + ": order", fast.order(0, 0), slow.order(0, 0));
        boolean byNumbers = true;
        for (int i = 0; i < 5; i++) {
            DUE.is("seed " + seed + ": ordered(" + i + ")", fast.ordered(i), slow.ordered(i));
            byNumbers &= i == 0 || slow.ordered(i) < 0 || slow.ordered(i) >= slow.ordered(i - 1);
        }
        return !byNumbers;
    }
}
