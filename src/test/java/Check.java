/** What the tests share: each wrong answer is printed, and close() ends with exit code 1 if there was one. */
final class Check {
    /** Labels that flow upwards in this order: less secret and more trusted ones first. */
    static final int LOW = label(0, 0, 3, 3);
    static final int MID = label(1, 1, 2, 1);
    static final int HIGH = label(3, 15, 0, 0);
    /** Flows neither to MID nor from it, but lies between LOW and HIGH too. */
    static final int ASIDE = label(1, 2, 2, 1);

    private static int checked = 0;
    private static int wrong = 0;

    interface Call {
        void run();
    }

    private Check() {
    }

    static int label(int secrecy, int secrets, int trust, int warrants) {
        return secrecy + 4 * secrets + 64 * trust + 256 * warrants;
    }

    static int address(int label, int number) {
        return 16 * label + number;
    }

    static void same(String what, int got, int want) {
        checked++;
        if (got != want) {
            wrong++;
            System.out.println(what + ": answered " + got + ", due is " + want);
        }
    }

    static void same(String what, boolean got, boolean want) {
        same(what, got ? 1 : 0, want ? 1 : 0);
    }

    static void illegal(String what, Call call) {
        throwing(what, call, IllegalArgumentException.class);
    }

    static void unsupported(String what, Call call) {
        throwing(what, call, UnsupportedOperationException.class);
    }

    private static void throwing(String what, Call call, Class<?> due) {
        checked++;
        String got = "nothing";
        try {
            call.run();
        } catch (RuntimeException e) {
            if (e.getClass() == due) {
                return;
            }
            got = e.getClass().getName();
        }
        wrong++;
        System.out.println(what + ": threw " + got + ", due is " + due.getName());
    }

    /** Uses, spent, quota and number of files of a label in one go. */
    static void told(String what, TierHouse x, int label, int uses, int spent, int quota, int files) {
        same(what + ": uses", x.told(label, 0), uses);
        same(what + ": spent", x.told(label, 1), spent);
        same(what + ": quota", x.told(label, 2), quota);
        same(what + ": files", x.told(label, 3), files);
    }

    /** What a subject has seen, and that nothing more is seen behind it. */
    static void seen(String what, TierHouse x, int subject, int... values) {
        for (int i = 0; i < values.length; i++) {
            same(what + ": seen " + i, x.seen(subject, i), values[i]);
        }
        same(what + ": seen behind the last", x.seen(subject, values.length), 0);
    }

    /** Subjects 0 to 3 at LOW, MID, HIGH and ASIDE. */
    static TierHouse peopled() {
        TierHouse x = new TierHouse();
        x.subject(0, LOW);
        x.subject(1, MID);
        x.subject(2, HIGH);
        x.subject(3, ASIDE);
        return x;
    }

    /** A peopled house in which 200 files are there, all made by subject 0: 13 labels, none of them a named one. */
    static TierHouse full() {
        TierHouse x = peopled();
        x.quota(LOW, 1000);
        for (int k = 0; k < 200; k++) {
            x.make(0, fillLabel(k), k % 16, TierHouse.NONE);
        }
        return x;
    }

    /** Where full() put file k: labels without trust and warrants, so that they are above LOW. */
    static int fillLabel(int k) {
        return label(0, 1 + k / 16, 0, 0);
    }

    static void close(String test) {
        System.out.println(test + ": " + checked + " checked, " + wrong + " wrong");
        if (wrong != 0 || checked == 0) {
            System.exit(1);
        }
    }
}
