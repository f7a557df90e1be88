import java.util.Random;

/** Runs of calls by chance, the same in every run of the test, on HutLift and on the slow model: all answers alike. */
public final class ModelTest {
    private static final String[] NAMES = {"place", "machine", "pilot", "load", "hour", "feed", "rule", "drop", "says",
        "hang", "off", "may", "fly", "fuel", "minute", "about", "pilotOf", "cargo", "flight", "lift", "pack", "list",
        "order", "ordered", "count"};
    private static final int CALLS = 512;
    private static final String[] TEXTS = {"w6<", "s2>", "m60>", "h2=!", "t3<w5<|", "m100<m200>|", "f300<", "p2=h3<&!",
        "e4<w7<|", "l20<n2<&", "k3=!", "1", "0!", "m 7*f+p-", "h1&!", "m350>", "h5>", "p3=!m 90>|", "n!w3<|",
        "f 100 > h 4 > ! |", "f40=!", "m p 50 * >", "999 999 * 999 * 999 * m +", "f p 30 * > h 6 < &!", "w w - !"};

    private final Random chance;
    private final HutLift fast = new HutLift();
    private final SlowOffice slow = new SlowOffice();
    private final int style;
    private String waitingText = "";

    private ModelTest(long seed) {
        chance = new Random(seed);
        style = (int) (seed % 6);
    }

    public static void main(String[] args) {
        Due due = new Due("ModelTest");
        int runs = args.length > 0 ? Integer.parseInt(args[0]) : 1500;
        for (int seed = 0; seed < runs; seed++) {
            new ModelTest(seed).run(due, seed);
        }
        due.end();
    }

    private void run(Due due, int seed) {
        StringBuilder told = new StringBuilder();
        for (int i = 0; i < CALLS; i++) {
            int which = whichCall(i);
            int[] a = argumentsOf(which);
            int got = fastCall(which, a);
            int want = slowCall(which, a);
            told.append(NAMES[which]).append(java.util.Arrays.toString(a)).append('=').append(want).append(' ');
            due.is("run " + seed + ", call " + i + ", " + NAMES[which] + java.util.Arrays.toString(a), got, want);
            if (got != want) {
                System.out.println(told);
                return;
            }
        }
    }

    private int below(int n) {
        return chance.nextInt(n);
    }

    /** At first what there is, then a mix that each style weighs otherwise. */
    private int whichCall(int i) {
        if (!waitingText.isEmpty()) {
            return 5;
        }
        if (i < 12) {
            return i < 5 ? 0 : i < 8 ? 1 : 2;
        }
        int[][] mixes = {
            {3, 3, 3, 9, 9, 9, 9, 12, 12, 12, 14, 14, 17, 17, 11, 18, 15, 16, 13, 10, 26},
            {21, 21, 21, 21, 22, 22, 23, 23, 4, 14, 6, 7, 12, 16, 26},
            {3, 3, 20, 20, 20, 9, 12, 14, 20, 26},
            {12, 12, 12, 12, 12, 14, 13, 13, 3, 9, 18, 17, 24},
            {6, 8, 8, 11, 4, 14, 9, 3, 7, 10, 12, 5, 6, 26},
            {26}};
        int call = mixes[style][below(mixes[style].length)];
        return call == 26 ? below(25) : call;
    }

    /** Mostly a number that there is, now and then one beside it, seldom a wild one. */
    private int number(int least, int most) {
        int kind = below(40);
        if (kind == 0) {
            return chance.nextBoolean() ? least - 1 : most + 1;
        }
        if (kind == 1) {
            return chance.nextBoolean() ? least : most;
        }
        if (kind == 2 && below(8) == 0) {
            return chance.nextInt();
        }
        return least + below(Math.max(1, most - least + 1));
    }

    private int some(int size) {
        return number(0, Math.max(0, size - 1));
    }

    private int hut() {
        return number(1, Math.max(1, slow.places.size() - 1));
    }

    private int[] numbers(int... n) {
        return n;
    }

    private int[] argumentsOf(int which) {
        int m = some(slow.machines.size());
        int p = some(slow.pilots.size());
        int now = slow.now;
        switch (which) {
            case 0: return numbers(number(0, 9), style == 3 ? number(1, 3) : below(3) > 0 ? number(1, 20) : number(1, 60));
            case 1: return numbers(number(1, 200), below(2) > 0 ? number(500, 2000) : number(1, 2000));
            case 2: return numbers(below(3) > 0 ? number(300, 720) : number(0, 720), below(2) > 0 ? number(0, 10) : number(0, 120));
            case 3: return numbers(cargo(), number(1, below(2) > 0 ? 99 : 30), below(3) > 0 ? number(0, Math.min(720, now + 5)) : number(0, 720),
                    below(2) > 0 ? number(now, Math.min(720, now + 60)) : number(0, 720));
            case 4: return numbers(number(0, 11), number(-1, 9), number(-1, 9), number(-1, 9));
            case 5: return feeding();
            case 6: return ruling();
            case 7: return numbers();
            case 8: return numbers(some(slow.rules.size()), m, p, hut());
            case 9: return numbers(m, some(slow.loads.size()));
            case 10: return numbers(some(slow.loads.size()));
            case 11: case 12: return flying(m, p);
            case 13: return numbers(m);
            case 14: return numbers(style == 3 ? number(1, 4) : below(4) > 0 ? number(1, 15) : number(1, 120));
            case 15: return numbers(m, number(0, 4));
            case 16: return numbers(p, number(0, 2));
            case 17: return numbers(some(slow.loads.size()), number(0, 5));
            case 18: return numbers(some(slow.flights.size()), number(0, 8));
            case 19: return numbers(m, number(0, slow.places.size() - 1), number(0, 11));
            case 20: return numbers(hut(), below(2) > 0 ? number(60, 200) : number(0, 400));
            case 21: return numbers(hut());
            case 22: return numbers(m, p);
            case 23: return numbers(number(0, 4));
            default: return numbers(number(0, 9));
        }
    }

    private int cargo() {
        int kind = below(3) == 0 ? number(0, 4) : new int[] {0, 0, 2, 4, 4}[below(5)];
        int place = style == 2 ? 1 + below(3) : below(3) > 0 ? 1 + below(2) : hut();
        int room = below(3) > 0 ? 1 + below(4) : number(1, 9);
        return below(60) == 0 ? chance.nextInt() : 10000 * kind + 100 * place + room;
    }

    /** To where something hangs, if it does, for else most flights would be refused. */
    private int[] flying(int m, int p) {
        int place = hut();
        if (below(4) > 0 && m >= 0 && m < slow.machines.size() && !slow.hanging(m).isEmpty()) {
            place = slow.loads.get(slow.hanging(m).get(0))[1];
        }
        return numbers(m, p, place);
    }

    /** The rest of a text that is being fed, or bytes by chance. */
    private int[] feeding() {
        String bytes = "wtshmpeklnf+-*<=>&|! 0123456789q~";
        String text = waitingText;
        if (text.isEmpty()) {
            for (int i = below(6); i >= 0; i--) {
                text += bytes.charAt(below(bytes.length() - (below(5) > 0 ? 2 : 0)));
            }
        }
        int n = Math.min(text.length(), 1 + below(4));
        int v = chance.nextInt();
        for (int i = 0; i < n; i++) {
            v = v & ~(255 << 8 * i) | text.charAt(i) << 8 * i;
        }
        waitingText = waitingText.isEmpty() ? "" : waitingText.substring(n);
        return numbers(below(50) == 0 ? number(1, 4) : n, v);
    }

    /** A rule is made of what lies on the tape; the next one's text comes behind it. */
    private int[] ruling() {
        if (below(5) > 0) {
            waitingText = TEXTS[below(TEXTS.length)];
        }
        return numbers();
    }

    private int fastCall(int which, int[] a) {
        switch (which) {
            case 0: return fast.place(a[0], a[1]);
            case 1: return fast.machine(a[0], a[1]);
            case 2: return fast.pilot(a[0], a[1]);
            case 3: return fast.load(a[0], a[1], a[2], a[3]);
            case 4: return fast.hour(a[0], a[1], a[2], a[3]);
            case 5: return fast.feed(a[0], a[1]);
            case 6: return fast.rule();
            case 7: return fast.drop();
            case 8: return fast.says(a[0], a[1], a[2], a[3]);
            case 9: return fast.hang(a[0], a[1]);
            case 10: return fast.off(a[0]);
            case 11: return fast.may(a[0], a[1], a[2]);
            case 12: return fast.fly(a[0], a[1], a[2]);
            case 13: return fast.fuel(a[0]);
            case 14: return fast.minute(a[0]);
            case 15: return fast.about(a[0], a[1]);
            case 16: return fast.pilotOf(a[0], a[1]);
            case 17: return fast.cargo(a[0], a[1]);
            case 18: return fast.flight(a[0], a[1]);
            case 19: return fast.lift(a[0], a[1], a[2]);
            case 20: return fast.pack(a[0], a[1]);
            case 21: return fast.list(a[0]);
            case 22: return fast.order(a[0], a[1]);
            case 23: return fast.ordered(a[0]);
            default: return fast.count(a[0]);
        }
    }

    private int slowCall(int which, int[] a) {
        switch (which) {
            case 0: return slow.place(a[0], a[1]);
            case 1: return slow.machine(a[0], a[1]);
            case 2: return slow.pilot(a[0], a[1]);
            case 3: return slow.load(a[0], a[1], a[2], a[3]);
            case 4: return slow.hour(a[0], a[1], a[2], a[3]);
            case 5: return slow.feed(a[0], a[1]);
            case 6: return slow.rule();
            case 7: return slow.drop();
            case 8: return slow.says(a[0], a[1], a[2], a[3]);
            case 9: return slow.hang(a[0], a[1]);
            case 10: return slow.off(a[0]);
            case 11: return slow.may(a[0], a[1], a[2]);
            case 12: return slow.fly(a[0], a[1], a[2]);
            case 13: return slow.fuel(a[0]);
            case 14: return slow.minute(a[0]);
            case 15: return slow.about(a[0], a[1]);
            case 16: return slow.pilotOf(a[0], a[1]);
            case 17: return slow.cargo(a[0], a[1]);
            case 18: return slow.flight(a[0], a[1]);
            case 19: return slow.lift(a[0], a[1], a[2]);
            case 20: return slow.pack(a[0], a[1]);
            case 21: return slow.list(a[0]);
            case 22: return slow.order(a[0], a[1]);
            case 23: return slow.ordered(a[0]);
            default: return slow.count(a[0]);
        }
    }
}
