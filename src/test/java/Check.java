import java.util.Arrays;

/** What the tests share: each wrong answer is printed, and close() ends with exit code 1 if there was one. */
final class Check {
    /** Labels that flow upwards in this order: less secret and more trusted ones first. */
    static final int LOW = label(0, 0, 3, 3);
    static final int MID = label(1, 1, 2, 1);
    static final int HIGH = label(3, 15, 0, 0);
    /** Flows neither to MID nor from it, but lies between LOW and HIGH too. */
    static final int ASIDE = label(1, 2, 2, 1);

    /** A secrecy higher, a secret more, a trust lower, a warrant less than MID. */
    static final int[] JUST_ABOVE_MID = {MID + 1, MID + 8, MID - 64, MID - 256};
    /** MID may not flow to these: the other way round in one part, ASIDE, and one way in a part, the other in another. */
    static final int[] NOT_ABOVE_MID = {MID - 1, MID - 4, MID + 64, MID + 512, ASIDE, MID + 1 - 4, MID + 1 + 64, MID + 8 + 512};

    private static int checked = 0;
    private static int wrong = 0;
    private static String sentence = "";
    private static long state = 0;

    interface Call {
        void run();
    }

    private Check() {
    }

    static int label(int secrecy, int secrets, int trust, int warrants) {
        return secrecy + 4 * secrets + 64 * trust + 256 * warrants;
    }

    /** What the document asks, told bit by bit so as not to be the program's own words. */
    static boolean mayFlow(int from, int to) {
        if (from % 4 > to % 4 || from / 64 % 4 < to / 64 % 4) {
            return false;
        }
        for (int secret = 4; secret <= 32; secret *= 2) {
            if (from / secret % 2 == 1 && to / secret % 2 == 0) {
                return false;
            }
        }
        for (int warrant = 256; warrant <= 512; warrant *= 2) {
            if (to / warrant % 2 == 1 && from / warrant % 2 == 0) {
                return false;
            }
        }
        return true;
    }

    static int address(int label, int number) {
        return 16 * label + number;
    }

    /** Where below() begins, so that a run of numbers is the same each time. */
    static void seed(int seed) {
        state = seed;
    }

    static int below(int bound) {
        state = state * 6364136223846793005L + 1442695040888963407L;
        return (int) ((state >>> 33) % bound);
    }

    /** The document's words that the next checks hold the program to; SentencesTest finds them in it. */
    static void sentence(String words) {
        sentence = "[" + words + "] ";
    }

    /** A test that throws is wrong, and the others go on. */
    static void each(Call... tests) {
        for (Call test : tests) {
            try {
                test.run();
            } catch (RuntimeException e) {
                wrong("a call threw " + e + " at " + Arrays.toString(e.getStackTrace()));
            }
        }
    }

    static void same(String what, int got, int want) {
        checked++;
        if (got != want) {
            wrong(what + ": answered " + got + ", due is " + want);
        }
    }

    private static void wrong(String what) {
        wrong++;
        System.out.println(sentence + what);
    }

    static void same(String what, boolean got, boolean want) {
        same(what, got ? 1 : 0, want ? 1 : 0);
    }

    static void illegal(String what, Call call) {
        throwing(what, call, IllegalArgumentException.class);
    }

    static void unsupported(String what, Call call) {
        throwing(what, call, UnsupportedOperationException.class);
    }

    private static void throwing(String what, Call call, Class<?> due) {
        checked++;
        String got = "nothing";
        try {
            call.run();
        } catch (RuntimeException e) {
            if (e.getClass() == due) {
                return;
            }
            got = e.getClass().getName();
        }
        wrong(what + ": threw " + got + ", due is " + due.getName());
    }

    /** A call that throws nothing where it is legal, and IllegalArgumentException where it is not. */
    static void legal(String what, boolean legal, Call call) {
        if (!legal) {
            illegal(what, call);
            return;
        }
        checked++;
        try {
            call.run();
        } catch (RuntimeException e) {
            wrong(what + ": threw " + e.getClass().getName() + ", due is nothing");
        }
    }

    /** Uses, spent, quota and number of files of a label in one go. */
    static void told(String what, TierHouse x, int label, int uses, int spent, int quota, int files) {
        same(what + ": uses", x.told(label, 0), uses);
        same(what + ": spent", x.told(label, 1), spent);
        same(what + ": quota", x.told(label, 2), quota);
        same(what + ": files", x.told(label, 3), files);
    }

    /** What a subject has seen, and that nothing more is seen behind it. */
    static void seen(String what, TierHouse x, int subject, int... values) {
        for (int i = 0; i < values.length; i++) {
            same(what + ": seen " + i, x.seen(subject, i), values[i]);
        }
        same(what + ": seen behind the last", x.seen(subject, values.length), 0);
    }

    /**
     * What can be asked of two peopled houses that should not differ, some 160 calls each. What was
     * seen comes first, as the requests behind it forget it; the listing goes in the end.
     */
    static void alike(String what, TierHouse x, TierHouse y) {
        for (int subject = 0; subject < 4; subject++) {
            alikeSeen(what + ", subject " + subject, x, y, subject);
        }
        for (int subject = 0; subject < 4; subject++) {
            int label = ownLabel(subject);
            told(what + ", label " + label, x, label, y.told(label, 0), y.told(label, 1), y.told(label, 2), y.told(label, 3));
            for (int number = 0; number < 3; number++) {
                alikeFile(what + ", file " + number + " at " + label, x, y, label, number);
            }
        }
        same(what + ", listed", x.list(1, MID, LOW, false), y.list(1, MID, LOW, false));
        same(what + ", subject 4", x.subject(4, LOW), y.subject(4, LOW));
    }

    private static void alikeSeen(String what, TierHouse x, TierHouse y, int subject) {
        for (int i = 0; i < 3; i++) {
            same(what + ": seen " + i, x.seen(subject, i), y.seen(subject, i));
        }
    }

    private static void alikeFile(String what, TierHouse x, TierHouse y, int label, int number) {
        same(what + ": there", x.there(2, label, number), y.there(2, label, number));
        same(what + ": size", x.size(2, label, number), y.size(2, label, number));
        for (int i = 0; i < 2; i++) {
            same(what + ": cell " + i, x.read(2, label, number, i), y.read(2, label, number, i));
            same(what + ": value " + i, x.seen(2, 0), y.seen(2, 0));
        }
        same(what + ": files in it", x.listed(2, label, number), y.listed(2, label, number));
        alikeSeen(what + ": files in it", x, y, 2);
    }

    /** Subjects 0 to 3 at LOW, MID, HIGH and ASIDE. */
    static TierHouse peopled() {
        TierHouse x = new TierHouse();
        for (int subject = 0; subject < 4; subject++) {
            x.subject(subject, ownLabel(subject));
        }
        return x;
    }

    static int ownLabel(int subject) {
        return new int[] {LOW, MID, HIGH, ASIDE}[subject];
    }

    /** A peopled house in which 200 files are there, all made by subject 0: 13 labels, none of them a named one. */
    static TierHouse full() {
        TierHouse x = peopled();
        x.quota(LOW, 1000);
        for (int k = 0; k < 200; k++) {
            x.make(0, fillLabel(k), k % 16, TierHouse.NONE);
        }
        return x;
    }

    /** Where full() put file k: labels without trust and warrants, so that they are above LOW. */
    static int fillLabel(int k) {
        return label(0, 1 + k / 16, 0, 0);
    }

    static void close(String test) {
        System.out.println(test + ": " + checked + " checked, " + wrong + " wrong");
        if (wrong != 0 || checked == 0) {
            System.exit(1);
        }
    }
}
