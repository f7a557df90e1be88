/** What the tests share: it prints each answer that is not due, and ends with 1 if there was one. */
final class Due {
    private final String test;
    private int asked;
    private int wrong;

    Due(String test) {
        this.test = test;
    }

    void is(String call, long got, long want) {
        asked++;
        if (got != want) {
            wrong++;
            System.out.println(test + ": " + call + " answered " + got + ", due is " + want);
        }
    }

    void holds(String what, boolean good) {
        is(what, good ? 1 : 0, 1);
    }

    void end() {
        System.out.println(test + ": " + asked + " asked, " + wrong + " wrong");
        if (wrong != 0 || asked == 0) {
            System.exit(1);
        }
    }

    /** Feeds a text as the calls take it, up to four bytes at once: the last answer, or the first that refuses. */
    static int feed(HutLift x, String text) {
        int answer = 0;
        for (int from = 0; from < text.length(); from += 4) {
            int n = Math.min(4, text.length() - from);
            int v = 0;
            for (int i = 0; i < n; i++) {
                v |= (text.charAt(from + i) & 255) << (8 * i);
            }
            answer = x.feed(n, v);
            if (answer < 0) {
                return answer;
            }
        }
        return answer;
    }

    /** Feeds a text and makes a RULE of it. */
    static int rule(HutLift x, String text) {
        feed(x, text);
        return x.rule();
    }

    /** A number of minutes that may be more than one call takes. */
    static int pass(HutLift x, int minutes) {
        int answer = x.count(6);
        for (int left = minutes; left > 0; left -= 120) {
            answer = x.minute(Math.min(120, left));
        }
        return answer;
    }
}
