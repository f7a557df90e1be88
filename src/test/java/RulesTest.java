/** Promises 7 to 10: feed, rule, drop, says. */
public final class RulesTest {
    private static final Due DUE = new Due("RulesTest");
    private static final int NOT_SAID = -2000000000;

    public static void main(String[] args) {
        feeding();
        faults();
        pileHeight();
        fullBook();
        dropping();
        signs();
        names();
        notSaid();
        DUE.end();
    }

    private static HutLift office() {
        HutLift x = new HutLift();
        x.place(7, 2);
        x.place(4, 3);
        x.machine(100, 500);
        x.machine(100, 500);
        x.pilot(720, 0);
        x.pilot(720, 0);
        return x;
    }

    private static void feeding() {
        HutLift x = office();
        for (int n : new int[] {0, 5, -1, Integer.MIN_VALUE, Integer.MAX_VALUE}) {
            DUE.is("feed(" + n + ", 0)", x.feed(n, 0), HutLift.NONE);
        }
        DUE.is("no bytes yet", x.count(9), 0);
        DUE.is("the lowest byte comes first", x.feed(3, '7' | '2' << 8 | '-' << 16 | 'q' << 24), 3);
        DUE.is("bytes on the tape", x.count(9), 3);
        DUE.is("7 2 are one number", x.rule(), -102);
        x.feed(4, '7' | ' ' << 8 | '2' << 16 | '-' << 24);
        DUE.is("a rule", x.rule(), 0);
        DUE.is("7 less 2", x.says(0, 0, 0, 1), 5);
        DUE.is("a byte above 127", x.feed(4, -1), 4);
        DUE.is("is no name", x.rule(), -100);
        for (int i = 1; i <= 14; i++) {
            DUE.is("four more", x.feed(4, 0x20202020), 4 * i);
        }
        DUE.is("57 .. 59", x.feed(3, 0x202020), 59);
        DUE.is("two are too many", x.feed(2, 0x2020), HutLift.FULL);
        DUE.is("they change nothing", x.count(9), 59);
        DUE.is("NONE is ahead of FULL", x.feed(5, 0), HutLift.NONE);
        DUE.is("the sixtieth", x.feed(1, 'w'), 60);
        DUE.is("the next", x.feed(1, 'w'), HutLift.FULL);
        DUE.is("a rule of sixty bytes", x.rule(), 1);
        DUE.is("the tape is empty", x.count(9), 0);
    }

    private static void fault(HutLift x, String text, int place) {
        Due.feed(x, text);
        DUE.is("fault of '" + text + "'", x.rule(), -100 - place);
        DUE.is("tape behind '" + text + "'", x.count(9), 0);
        DUE.is("rules behind '" + text + "'", x.count(4), 0);
    }

    private static void faults() {
        HutLift x = office();
        fault(x, "", 0);
        fault(x, " ", 1);
        fault(x, "   ", 3);
        fault(x, "q", 0);
        fault(x, "W", 0);
        fault(x, "1/", 1);
        fault(x, "1:", 1);
        fault(x, "1\t", 1);
        fault(x, "1234", 3);
        fault(x, "0000", 3);
        fault(x, "w 12345", 5);
        fault(x, "1 2", 3);
        fault(x, "ww", 2);
        fault(x, "w1", 2);
        fault(x, "1w", 2);
        fault(x, "+", 0);
        fault(x, "1+", 1);
        fault(x, "1 2++", 4);
        fault(x, "!", 0);
        fault(x, " !1", 1);
        fault(x, "1+q", 1);
        fault(x, "q+", 0);
        fault(x, "1 2 3+", 6);
        for (String sign : new String[] {"+", "-", "*", "<", "=", ">", "&", "|"}) {
            fault(x, "1" + sign, 1);
            fault(x, "1 2 3" + sign, 6);
        }
        fault(x, "\u0000", 0);
        fault(x, "1\u00ff", 1);
    }

    private static String times(int n, String text) {
        return text.repeat(n);
    }

    private static void pileHeight() {
        HutLift x = office();
        fault(x, times(21, "w"), 20);
        fault(x, times(20, "w"), 20);
        fault(x, times(20, "w") + "123", 20);
        fault(x, times(20, "w") + " 1234", 21);
        fault(x, times(20, "w") + times(19, "+") + "+", 39);
        fault(x, times(20, "w") + "+ww", 22);
        DUE.is("twenty lie on the pile", Due.rule(x, times(20, "1 ") + times(19, "+")), 0);
        DUE.is("twenty added", x.says(0, 0, 0, 1), 20);
        DUE.is("twenty again and again", Due.rule(x, times(20, "m") + "!+m" + times(19, "+")), 1);
    }

    private static void fullBook() {
        HutLift x = office();
        for (int i = 0; i < 10; i++) {
            DUE.is("rule " + i, Due.rule(x, "" + (i + 1)), i);
        }
        DUE.is("rules are many", x.count(4), 10);
        Due.feed(x, "42");
        DUE.is("an eleventh", x.rule(), HutLift.FULL);
        DUE.is("the tape stays", x.count(9), 2);
        DUE.is("rule 9 stays", x.says(9, 0, 0, 1), 10);
        DUE.is("one goes", x.drop(), 9);
        DUE.is("there is room again", x.rule(), 9);
        DUE.is("the tape has become it", x.says(9, 0, 0, 1), 42);
        DUE.is("and is empty", x.count(9), 0);
        Due.feed(x, "q");
        DUE.is("full, whatever the tape says", x.rule(), HutLift.FULL);
        DUE.is("the tape stays then too", x.count(9), 1);
    }

    private static void dropping() {
        HutLift x = office();
        DUE.is("nothing to drop", x.drop(), HutLift.STATE);
        Due.rule(x, "5");
        Due.rule(x, "0");
        Due.feed(x, "6");
        DUE.is("rule 1 forbids", x.may(0, 0, 1), 11);
        DUE.is("the latest goes", x.drop(), 1);
        DUE.is("rule 1 is gone", x.says(1, 0, 0, 1), NOT_SAID);
        DUE.is("rule 0 is there", x.says(0, 0, 0, 1), 5);
        DUE.is("nothing forbids", x.may(0, 0, 1), 0);
        DUE.is("the tape stays", x.count(9), 1);
        DUE.is("the last one goes", x.drop(), 0);
        DUE.is("none is left", x.drop(), HutLift.STATE);
    }

    private static void gives(String text, int want) {
        HutLift x = office();
        DUE.is("'" + text + "' is a rule", Due.rule(x, text), 0);
        DUE.is("'" + text + "'", x.says(0, 0, 0, 1), want);
    }

    private static void signs() {
        gives("7", 7);
        gives("42", 42);
        gives("999", 999);
        gives("007", 7);
        gives("  8  ", 8);
        gives("10 3+", 13);
        gives("10 3-", 7);
        gives("3 10-", -7);
        gives("10 3*", 30);
        gives("3 10<", 1);
        gives("10 3<", 0);
        gives("3 3<", 0);
        gives("3 10>", 0);
        gives("10 3>", 1);
        gives("3 3>", 0);
        gives("3 3=", 1);
        gives("3 10=", 0);
        gives("0 1-5<", 1);
        gives("2 4&", 1);
        gives("2 0&", 0);
        gives("0 2&", 0);
        gives("0 0&", 0);
        gives("2 4|", 1);
        gives("2 0|", 1);
        gives("0 2|", 1);
        gives("0 0|", 0);
        gives("0!", 1);
        gives("5!", 0);
        gives("0 5-!", 0);
        gives("5!!", 1);
        gives("1 2 3-*", -1);
        gives("2 3 4*+", 14);
        gives("999 999*999*999*", 999 * 999 * 999 * 999);
        gives("999 999*999*3*0 1-*999 999*999*2*-", -3 * 999 * 999 * 999 - 2 * 999 * 999 * 999);
    }

    /** Every name for one flight, and once more when all of it has changed. */
    private static void names() {
        HutLift x = office();
        String names = "wtshmpekln";
        for (int i = 0; i < names.length(); i++) {
            DUE.is("rule of a name", Due.rule(x, names.substring(i, i + 1)), i);
        }
        int[] first = {0, 0, 9, 0, 0, 1, 7, 0, 0, 0};
        namesAre(x, 0, 0, 1, first);
        x.hour(1, 3, 4, 5);
        x.load(203, 12, 0, 720);
        x.load(20202, 13, 0, 720);
        x.load(201, 14, 0, 720);
        Due.pass(x, 100);
        x.hang(1, 0);
        x.hang(1, 1);
        x.hang(1, 2);
        int[] then = {3, 4, 5, 1, 100, 2, 4, 2, 39, 3};
        namesAre(x, 1, 0, 2, then);
        int[] elsewhere = {3, 4, 5, 1, 100, 1, 7, 0, 0, 0};
        namesAre(x, 0, 0, 1, elsewhere);
        flown();
    }

    private static void namesAre(HutLift x, int machine, int pilot, int place, int[] want) {
        for (int i = 0; i < want.length; i++) {
            DUE.is("name " + i, x.says(i, machine, pilot, place), want[i]);
        }
    }

    private static void flown() {
        HutLift x = office();
        Due.rule(x, "f1+");
        DUE.is("not flown", x.says(0, 0, 0, 1), 1);
        x.fly(0, 0, 1);
        DUE.is("flown", x.says(0, 0, 0, 1), 7);
        DUE.is("another has not", x.says(0, 0, 1, 1), 1);
        x.drop();
        Due.rule(x, "f");
        DUE.is("the rule sees FLOWN ahead of the flight", x.may(1, 1, 1), 10);
    }

    private static void notSaid() {
        HutLift x = office();
        DUE.is("no rule yet", x.says(0, 0, 0, 1), NOT_SAID);
        Due.rule(x, "3");
        DUE.is("said", x.says(0, 0, 0, 1), 3);
        int[][] wrong = {{-1, 0, 0, 1}, {1, 0, 0, 1}, {0, -1, 0, 1}, {0, 2, 0, 1}, {0, 0, -1, 1}, {0, 0, 2, 1},
            {0, 0, 0, -1}, {0, 0, 0, 0}, {0, 0, 0, 3}, {10, 0, 0, 1}, {Integer.MIN_VALUE, 0, 0, 1},
            {0, Integer.MAX_VALUE, 0, 1}, {0, 0, Integer.MAX_VALUE, 1}, {0, 0, 0, Integer.MAX_VALUE}};
        for (int[] w : wrong) {
            DUE.is("says(" + w[0] + ", " + w[1] + ", " + w[2] + ", " + w[3] + ")",
                    x.says(w[0], w[1], w[2], w[3]), NOT_SAID);
        }
    }
}
