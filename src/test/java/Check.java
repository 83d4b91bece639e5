/** Counts answers that are not due, and tells a text to a TwoCards as a tape. */
final class Check {
    private static int wrong = 0;
    private static int held = 0;

    private Check() {
    }

    static void due(String call, long got, long want) {
        held++;
        if (got != want) {
            wrong++;
            System.out.println(call + " answered " + got + ", due is " + want);
        }
    }

    static void due(String call, boolean got, boolean want) {
        due(call, got ? 1 : 0, want ? 1 : 0);
    }

    static void end(String test) {
        System.out.println(test + ": " + held + " answers, " + wrong + " not as due");
        if (wrong != 0) {
            System.exit(1);
        }
    }

    /** Feeds a text and cuts the tape behind it; the tape was empty. */
    static void tape(TwoCards x, String text) {
        for (int i = 0; i < text.length(); i += 20) {
            int[] n = new int[5];
            for (int j = 0; j < 20; j++) {
                n[j / 4] = n[j / 4] << 8 | (i + j < text.length() ? text.charAt(i + j) : 0);
            }
            x.feed(n[0], n[1], n[2], n[3], n[4]);
        }
        x.end(text.length());
    }

    static int code(TwoCards x, String text) {
        tape(x, text);
        return x.code();
    }

    /** People of the same make, who keep one code. */
    static TwoCards people(int many, String text) {
        TwoCards x = new TwoCards();
        int code = code(x, text);
        due("code '" + text + "'", code, 0);
        for (int i = 0; i < many; i++) {
            x.person(30, 5, i);
            x.keeps(i, code);
        }
        return x;
    }

    static int bits(int... places) {
        int bits = 0;
        for (int place : places) {
            bits |= 1 << place;
        }
        return bits;
    }
}
