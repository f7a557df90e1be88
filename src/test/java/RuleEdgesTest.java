/** The edges that the document names of promises 7 to 10: the TAPE, a TEXT and its FAULT, the pile, RULES and says. */
public final class RuleEdgesTest {
    private static final Due DUE = new Due("RuleEdgesTest");
    private static final Twins BUSY = new Twins(DUE, Scenes::busy);
    private static final int NONE = HutLift.NONE, FULL = HutLift.FULL, STATE = HutLift.STATE, NOT_SAID = -2000000000;
    private static final String NAMES = "wtshmpeklnf", PAIRING = "+-*<=>&|";
    /** A text whose worth wraps round: 2147483648 is the least int. */
    private static final String LEAST_INT = "256 256*256*128*";

    public static void main(String[] args) {
        feedTakes1To4Bytes();
        lowestByteComesFirst();
        tapeHas60BytesAtMost();
        numbersHaveUpTo3Digits();
        fourthDigitIsAFault();
        blanksPartNumbers();
        everyByteAlone();
        everyByteBehindOne();
        everyByteBehindTwo();
        tooFewOnThePile();
        twentyOnThePile();
        twentyFirstIsAFault();
        notJustOneAtTheEnd();
        leastFaultIsTold();
        faultEmptiesTheTape();
        ruleEmptiesTheTape();
        rulesAre0To9();
        dropWithoutRules();
        latestRuleGoes();
        saysRefuses();
        comparing();
        truth();
        intsWrap();
        namesOfNothing();
        namesOfWhatHangs();
        DUE.end();
    }

    private static int bytes(String text) {
        int v = 0;
        for (int i = 0; i < text.length(); i++) {
            v |= text.charAt(i) << 8 * i;
        }
        return v;
    }

    private static void feedTakes1To4Bytes() {
        BUSY.range("feed(_, 0)", 1, 4, NONE, (x, n) -> x.feed(n, 0));
        for (int n = 1; n <= 4; n++) {
            HutLift x = new HutLift();
            DUE.is("feed(" + n + ", ..)", x.feed(n, bytes("1111")), n);
            DUE.is("bytes on the TAPE", x.count(9), n);
            DUE.is("no more than they", x.rule(), n == 4 ? -103 : 0);
        }
    }

    private static void lowestByteComesFirst() {
        HutLift x = Scenes.hut(1);
        x.feed(1, bytes("7+++"));
        DUE.is("one of four", x.rule(), 0);
        DUE.is("is the lowest", x.says(0, 0, 0, 1), 7);
        x.feed(4, bytes("9 4-"));
        DUE.is("four of four", x.rule(), 1);
        DUE.is("in their order", x.says(1, 0, 0, 1), 5);
        x.feed(3, bytes("123") | 0xff000000);
        DUE.is("three of four, v below 0", x.rule(), 2);
        DUE.is("in their order", x.says(2, 0, 0, 1), 123);
        x.feed(4, 0x80000000 | bytes("123"));
        DUE.is("the highest byte is 128", x.rule(), -103);
    }

    private static HutLift officeWithTape(int length) {
        HutLift x = Scenes.hut(1);
        Due.feed(x, " ".repeat(length - 2) + "42");
        return x;
    }

    private static void tapeHas60BytesAtMost() {
        for (int n = 1; n <= 4; n++) {
            int bytes = n;
            DUE.is("59 by " + n, officeWithTape(59 - n).feed(n, 0), 59);
            DUE.is("60 by " + n, officeWithTape(60 - n).feed(n, 0), 60);
            Twins nearlyFull = new Twins(DUE, () -> officeWithTape(61 - bytes));
            nearlyFull.changesNothing("61 by " + n, FULL, x -> x.feed(bytes, bytes("   ")));
            Twins full = new Twins(DUE, () -> officeWithTape(60));
            full.changesNothing(n + " behind 60", FULL, x -> x.feed(bytes, bytes("   ")));
        }
        Twins full = new Twins(DUE, () -> officeWithTape(60));
        full.changesNothing("NONE is ahead of FULL, 0 bytes", NONE, x -> x.feed(0, 0));
        full.changesNothing("NONE is ahead of FULL, 5 bytes", NONE, x -> x.feed(5, 0));
        HutLift x = officeWithTape(60);
        DUE.is("60 bytes are a RULE", x.rule(), 0);
        DUE.is("with the last one", x.says(0, 0, 0, 1), 42);
        HutLift y = officeWithTape(60);
        y.feed(1, '3');
        y.rule();
        DUE.is("then the TAPE takes 4 again", y.feed(4, 0), 4);
    }

    private static void gives(String text, int want) {
        HutLift x = Scenes.hut(1);
        DUE.is("'" + text + "' is a RULE", Due.rule(x, text), 0);
        DUE.is("'" + text + "' gives", x.says(0, 0, 0, 1), want);
    }

    private static void fault(String text, int place) {
        HutLift x = Scenes.hut(1);
        Due.feed(x, text);
        DUE.is("'" + text + "' has the FAULT", x.rule(), -100 - place);
        DUE.is("'" + text + "' is no RULE", x.count(4), 0);
    }

    private static void numbersHaveUpTo3Digits() {
        gives("0", 0);
        gives("9", 9);
        gives("10", 10);
        gives("99", 99);
        gives("100", 100);
        gives("999", 999);
        gives("000", 0);
        gives("007", 7);
        gives("070", 70);
    }

    private static void fourthDigitIsAFault() {
        fault("1234", 3);
        fault("0000", 3);
        fault("0001", 3);
        fault("12345", 3);
        fault(" 1234", 4);
        fault("123 4567", 7);
        fault("w1234", 4);
        fault("123w1234", 7);
        gives("123w456++", 579);
    }

    private static void blanksPartNumbers() {
        gives("1 2-", -1);
        gives("12 3-", 9);
        gives("1 23-", -22);
        gives("123 456-", -333);
        gives("1  2 -", -1);
        gives("  5  ", 5);
        gives("1 2 3--", 2);
        gives("5e6++", 11);
    }

    private static boolean isDigit(int b) {
        return b >= '0' && b <= '9';
    }

    private static int made(String ahead, int b) {
        return Due.rule(Scenes.hut(1), ahead + (char) b);
    }

    private static void everyByteAlone() {
        for (int b = 0; b < 256; b++) {
            boolean lays = isDigit(b) || NAMES.indexOf(b) >= 0;
            DUE.is("byte " + b + " alone", made("", b), lays ? 0 : b == ' ' ? -101 : -100);
        }
    }

    private static void everyByteBehindOne() {
        for (int b = 0; b < 256; b++) {
            boolean good = isDigit(b) || b == ' ' || b == '!';
            DUE.is("byte " + b + " behind one", made("7", b), good ? 0 : NAMES.indexOf(b) >= 0 ? -102 : -101);
        }
    }

    private static void everyByteBehindTwo() {
        for (int b = 0; b < 256; b++) {
            boolean lies = isDigit(b) || b == ' ' || b == '!' || NAMES.indexOf(b) >= 0;
            DUE.is("byte " + b + " behind two", made("w7", b), PAIRING.indexOf(b) >= 0 ? 0 : lies ? -103 : -102);
        }
    }

    private static void tooFewOnThePile() {
        for (char c : PAIRING.toCharArray()) {
            fault("" + c, 0);
            fault(" " + c, 1);
            fault("1" + c, 1);
            fault("123" + c, 3);
            fault("1 2" + c + c, 4);
            fault("1!" + c, 2);
        }
        fault("!", 0);
        fault("  !", 2);
        gives("1!", 0);
        gives("1 2=!", 1);
    }

    private static void twentyOnThePile() {
        gives("1" + " 1".repeat(18) + "+".repeat(18), 19);
        gives("1" + " 1".repeat(19) + "+".repeat(19), 20);
        gives("p".repeat(20) + "+".repeat(19), 20);
        gives("p".repeat(20) + "+p" + "+".repeat(19), 21);
        gives("p".repeat(20) + "!" + "+".repeat(19), 19);
        gives("p".repeat(19) + "123" + "+".repeat(19), 142);
        fault("p".repeat(20), 20);
    }

    private static void twentyFirstIsAFault() {
        fault("p".repeat(21), 20);
        fault("p".repeat(20) + "1", 20);
        fault("p".repeat(20) + "12", 20);
        fault("p".repeat(20) + "123", 20);
        fault("p".repeat(20) + "1234", 20);
        fault("p".repeat(20) + "  123", 22);
        fault("p".repeat(20) + "+pp", 22);
        fault("p".repeat(20) + "!p" + "+".repeat(20), 21);
        fault("p".repeat(19) + "123 4", 23);
        fault("p".repeat(19) + "1234", 22);
        fault("1 ".repeat(20) + "1", 40);
        fault("p".repeat(21) + "+".repeat(20), 20);
    }

    private static void notJustOneAtTheEnd() {
        fault("", 0);
        fault(" ", 1);
        fault(" ".repeat(60), 60);
        gives("1", 1);
        fault("1 2", 3);
        fault("1 2 ", 4);
        fault("1 2 3+", 6);
        gives("1 2 3++", 6);
        fault("p".repeat(20) + " ".repeat(40), 60);
        gives("p" + " ".repeat(59), 1);
    }

    private static void leastFaultIsTold() {
        fault("q+1234", 0);
        fault("+q1234", 0);
        fault("1234q+", 3);
        fault("1q1234+", 1);
        fault("1 2 q", 4);
        fault("1 2 3 1234", 9);
        fault("p".repeat(20) + "q1234", 20);
        fault("p".repeat(20) + " q1", 21);
    }

    private static void faultEmptiesTheTape() {
        HutLift x = Scenes.hut(1);
        Due.feed(x, "12+");
        DUE.is("a FAULT", x.rule(), -102);
        DUE.is("the TAPE is empty", x.count(9), 0);
        DUE.is("so the next FAULT is that of nothing", x.rule(), -100);
        DUE.is("the next text begins at 0", Due.feed(x, "7"), 1);
        DUE.is("and is the RULE", x.rule(), 0);
        DUE.is("alone", x.says(0, 0, 0, 1), 7);
    }

    private static void ruleEmptiesTheTape() {
        HutLift x = Scenes.hut(1);
        Due.feed(x, "12");
        DUE.is("a RULE", x.rule(), 0);
        DUE.is("the TAPE is empty", x.count(9), 0);
        DUE.is("nothing is no RULE", x.rule(), -100);
        DUE.is("RULES", x.count(4), 1);
    }

    private static HutLift officeWithRules(int n) {
        HutLift x = Scenes.hut(1);
        for (int i = 0; i < n; i++) {
            Due.rule(x, "" + (i + 1));
        }
        Due.feed(x, "77");
        return x;
    }

    private static void rulesAre0To9() {
        DUE.is("RULE 8", officeWithRules(8).rule(), 8);
        DUE.is("RULE 9", officeWithRules(9).rule(), 9);
        Twins full = new Twins(DUE, () -> officeWithRules(10));
        full.changesNothing("a RULE 10", FULL, HutLift::rule);
        HutLift x = officeWithRules(10);
        DUE.is("RULES", x.count(4), 10);
        for (int i = 0; i < 10; i++) {
            DUE.is("RULE " + i, x.says(i, 0, 0, 1), i + 1);
        }
        DUE.is("there is no RULE 10", x.says(10, 0, 0, 1), NOT_SAID);
        x.rule();
        DUE.is("the TAPE stays", x.count(9), 2);
        DUE.is("one goes", x.drop(), 9);
        DUE.is("then it is RULE 9", x.rule(), 9);
        DUE.is("with the TAPE that stayed", x.says(9, 0, 0, 1), 77);
    }

    private static void dropWithoutRules() {
        new Twins(DUE, () -> officeWithRules(0)).changesNothing("drop()", STATE, HutLift::drop);
        HutLift x = officeWithRules(1);
        DUE.is("the only one goes", x.drop(), 0);
        DUE.is("RULES", x.count(4), 0);
        DUE.is("none is left to go", x.drop(), STATE);
        DUE.is("the TAPE has been left alone", x.rule(), 0);
    }

    private static void latestRuleGoes() {
        HutLift x = officeWithRules(10);
        for (int left = 9; left >= 0; left--) {
            DUE.is("drop()", x.drop(), left);
            DUE.is("RULES", x.count(4), left);
            DUE.is("RULE " + left + " is gone", x.says(left, 0, 0, 1), NOT_SAID);
            if (left > 0) {
                DUE.is("the one ahead is there", x.says(left - 1, 0, 0, 1), left);
            }
        }
    }

    private static void saysRefuses() {
        BUSY.range("says(_, 0, 0, 1)", 0, 1, NOT_SAID, (x, n) -> x.says(n, 0, 0, 1));
        BUSY.range("says(0, _, 0, 1)", 0, 2, NOT_SAID, (x, n) -> x.says(0, n, 0, 1));
        BUSY.range("says(0, 0, _, 1)", 0, 2, NOT_SAID, (x, n) -> x.says(0, 0, n, 1));
        BUSY.range("says(0, 0, 0, _)", 1, 3, NOT_SAID, (x, n) -> x.says(0, 0, 0, n));
        BUSY.changesNothing("says tells only", 63, x -> x.says(1, 0, 0, 1));
        HutLift away = Scenes.busy();
        DUE.is("of a flight that may not be", away.may(Scenes.AWAY, Scenes.FLYING, 1), 1);
        DUE.is("it is said all the same", away.says(1, Scenes.AWAY, Scenes.FLYING, 1), 40 + 52 + 1);
    }

    /** Each of the three where the left side is less, as much, and more. */
    private static void comparing() {
        String[] sides = {"4 5", "5 5", "6 5", "0 1-0", "0 0", "1 0", LEAST_INT + "0", LEAST_INT + "1-0",
            LEAST_INT + LEAST_INT + "1-", LEAST_INT + "1-" + LEAST_INT};
        int[] signs = {-1, 0, 1, -1, 0, 1, -1, 1, -1, 1};
        for (int i = 0; i < sides.length; i++) {
            gives(sides[i] + "<", signs[i] < 0 ? 1 : 0);
            gives(sides[i] + "=", signs[i] == 0 ? 1 : 0);
            gives(sides[i] + ">", signs[i] > 0 ? 1 : 0);
        }
    }

    /** What is not 0 is true, also what is less than 0 or has no common bit. */
    private static void truth() {
        String[] some = {"0", "1", "2", "0 1-", LEAST_INT};
        for (int i = 0; i < some.length; i++) {
            gives(some[i] + "!", i == 0 ? 1 : 0);
            gives(some[i] + "!!", i == 0 ? 0 : 1);
            for (int j = 0; j < some.length; j++) {
                gives(some[i] + " " + some[j] + "&", i > 0 && j > 0 ? 1 : 0);
                gives(some[i] + " " + some[j] + "|", i > 0 || j > 0 ? 1 : 0);
            }
        }
    }

    private static void intsWrap() {
        gives(LEAST_INT, Integer.MIN_VALUE);
        gives(LEAST_INT + "1-", Integer.MAX_VALUE);
        gives(LEAST_INT + "1-1+", Integer.MIN_VALUE);
        gives(LEAST_INT + "1-2-", Integer.MAX_VALUE - 2);
        gives("0" + LEAST_INT.replace("256 ", " 256 ") + "-", Integer.MIN_VALUE);
        gives(LEAST_INT + "2*", 0);
        gives(LEAST_INT + "1-2*", -2);
        gives(LEAST_INT + "3*", Integer.MIN_VALUE);
        gives(LEAST_INT + "1-" + LEAST_INT + "1-*", 1);
        gives("999 999*999*", 997002999);
        gives("999 999*999*3*", -1303958299);
    }

    /** On a machine without loads, with a pilot who has not flown. */
    private static void namesOfNothing() {
        for (char name : "klnfwthm".toCharArray()) {
            gives("" + name, 0);
        }
        gives("s", 9);
        gives("p", 1);
        gives("e", 0);
    }

    private static void namesOfWhatHangs() {
        HutLift x = Scenes.hut(1);
        for (char name : "kln".toCharArray()) {
            Due.rule(x, "" + name);
        }
        for (int i = 0; i < 9; i++) {
            x.load(i == 4 ? 20101 : 101, 99, 0, 0);
        }
        x.load(10101, 3, 0, 0);
        x.load(30101, 4, 0, 0);
        for (int i = 0; i < 9; i++) {
            x.hang(0, i);
            DUE.is("k of " + i, x.says(0, 0, 0, 1), i < 4 ? 0 : 2);
            DUE.is("l of " + i, x.says(1, 0, 0, 1), 99 * (i + 1));
            DUE.is("n of " + i, x.says(2, 0, 0, 1), i + 1);
        }
        x.off(4);
        DUE.is("k when the COLD one is off", x.says(0, 0, 0, 1), 0);
        for (int i = 0; i < 9; i++) {
            x.off(i);
        }
        DUE.is("k without", x.says(0, 0, 0, 1), 0);
        x.hang(0, 9);
        DUE.is("k of LONG", x.says(0, 0, 0, 1), 1);
        x.off(9);
        x.hang(0, 10);
        DUE.is("k of DANGER", x.says(0, 0, 0, 1), 3);
    }
}
