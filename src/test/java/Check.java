/** What the tests whose answers are told by hand have in common. */
abstract class Check {
    static final int NONE = -1;
    static final int NO_LEVEL = -1000000;
    static final int NO_ANSWER = -1000000000;
    static final int BIG = Integer.MAX_VALUE;
    static final int SMALL = Integer.MIN_VALUE;

    /** The promise or the sentence that is looked at. */
    static String promise = "";

    private static int wrong = 0;
    private static int asked = 0;

    static void due(String call, long got, long want) {
        asked++;
        if (got != want) {
            wrong++;
            System.out.println(promise + ": " + call + " answered " + got + ", due is " + want);
        }
    }

    static void due(String call, boolean got, boolean want) {
        due(call, got ? 1 : 0, want ? 1 : 0);
    }

    static void due(String what, String got, String want) {
        asked++;
        if (!got.equals(want)) {
            wrong++;
            System.out.println(promise + ": " + what + "\n  is       " + got + "\n  but was  " + want);
        }
    }

    static void conclude() {
        System.out.println(wrong == 0 ? asked + " answers are as due" : wrong + " of " + asked + " answers are not as due");
        if (wrong > 0) {
            System.exit(1);
        }
    }

    /** Puts a text on the tape, nothing else. */
    static void tape(RingsUnder x, String s) {
        x.end(0);
        for (int i = 0; i < s.length(); i += 20) {
            int[] f = new int[5];
            for (int j = 0; j < 20; j++) {
                f[j / 4] = f[j / 4] << 8 | (i + j < s.length() ? s.charAt(i + j) : 0);
            }
            x.feed(f[0], f[1], f[2], f[3], f[4]);
        }
        x.end(s.length());
    }

    static int read(RingsUnder x, String s) {
        tape(x, s);
        return x.text();
    }

    /** A text that has force from the clock on. */
    static void enact(RingsUnder x, String s) {
        int text = read(x, s);
        due("text of " + s, text >= 0, true);
        due("force of " + s, x.force(text, x.about(0), 599) >= 0, true);
    }

    static void faulty(String s, int fault, int place) {
        RingsUnder x = new RingsUnder();
        due("text of " + s, read(x, s), fault == 0 ? 0 : NONE);
        due("fault(0) of " + s, x.fault(0), fault);
        due("fault(1) of " + s, x.fault(1), place);
        due("bytes behind " + s, x.about(13), 0);
    }

    /** One RING with one CELL far above the sea. */
    static RingsUnder high() {
        RingsUnder x = new RingsUnder();
        x.ring();
        x.cell(0, 3000, 10, 10, 0, 0);
        return x;
    }

    /** Whether people is so of a PERSON (age 30, kin 2, craft 3, on RING 0) in MONTH 4. */
    static void so(String either, boolean want) {
        RingsUnder x = high();
        x.person(2, 30, 3, 0, 0);
        int text = read(x, "people " + either + ";");
        due("text of people " + either, text, 0);
        x.force(text, 4, 4);
        due("people " + either, x.is(0, 0, 4), want ? 1 : 0);
    }
}
