import java.util.ArrayList;
import java.util.List;

/**
 * The document's first sentence, held against long runs of requests, the same each time: what it says
 * of the whole house follows from no single call.
 */
final class WhatItIsTest {
    private static final int[] LABELS = {Check.LOW, Check.MID, Check.HIGH, Check.ASIDE, Check.JUST_ABOVE_MID[0],
        Check.JUST_ABOVE_MID[1], Check.JUST_ABOVE_MID[2], Check.JUST_ABOVE_MID[3]};
    private static final int RUNS = 80;
    /** With what is seen, and the calls that furnish a house, less than 512 calls. */
    private static final int REQUESTS = 155;
    private static final int NUMBERS = 2;
    /** What builds comes more often than what takes away, so that there is something to meet. */
    private static final Request[] OFTEN = {Request.MAKE, Request.MAKE, Request.SET, Request.SET, Request.SET,
        Request.GIVE, Request.GIVE, Request.READ, Request.READ, Request.LIST, Request.LIST};

    private record Asked(Request request, int subject, int label, int number, int last) {
        int of(TierHouse x) {
            return request.ask(x, subject, label, number, last);
        }
    }

    public static void main(String[] args) {
        Check.each(
            WhatItIsTest::nothingGoesWhereItMayNot,
            WhatItIsTest::writingUpwardsIsBlind,
            WhatItIsTest::roomIsPaidByWhoWrites,
            WhatItIsTest::onlyWhatIsListedComesDown);
        Check.close("what it is");
    }

    /** A subject and two files at each label; quotas low enough to be met. */
    private static TierHouse house() {
        TierHouse x = new TierHouse();
        for (int subject = 0; subject < LABELS.length; subject++) {
            x.subject(subject, LABELS[subject]);
            x.quota(LABELS[subject], 5);
            x.make(subject, LABELS[subject], 0, Check.address(Check.LOW, 0));
            x.make(subject, LABELS[subject], 1, Check.address(LABELS[subject], 0));
        }
        return x;
    }

    private static int someLabel() {
        return LABELS[Check.below(LABELS.length)];
    }

    private static Asked anything() {
        Request[] choice = Check.below(4) == 0 ? Request.values() : OFTEN;
        Request request = choice[Check.below(choice.length)];
        int subject = Check.below(LABELS.length);
        int label = Check.below(3) == 0 ? LABELS[subject] : someLabel();
        return new Asked(request, subject, label, Check.below(NUMBERS), lastOf(request));
    }

    private static int lastOf(Request request) {
        switch (request) {
            case MAKE: return Check.below(2) == 0 ? TierHouse.NONE : Check.address(someLabel(), Check.below(NUMBERS));
            case GIVE: return 1 + Check.below(1000);
            case RELEASE: return someLabel();
            default: return Check.below(3);
        }
    }

    private static List<Asked> run(int seed) {
        Check.seed(seed);
        List<Asked> run = new ArrayList<>();
        for (int k = 0; k < REQUESTS; k++) {
            run.add(anything());
        }
        return run;
    }

    /** Without the requests of those from whom nothing may flow to a label, all is alike to who may flow to it. */
    private static void nothingGoesWhereItMayNot() {
        Check.sentence("A house of files at many levels: who may read what and who may write where is told by labels"
            + " of secrecy and of trust alone, so that nothing ever goes where it may not;");
        for (int seed = 0; seed < RUNS; seed++) {
            List<Asked> run = run(seed);
            for (int observer : LABELS) {
                TierHouse all = house();
                TierHouse kept = house();
                for (Asked asked : run) {
                    int got = asked.of(all);
                    if (Check.mayFlow(LABELS[asked.subject], observer)) {
                        Check.same("run " + seed + " for " + observer + ", " + asked, got, asked.of(kept));
                        alikeSeen("run " + seed + " for " + observer + ", " + asked, all, kept, asked.subject);
                    }
                }
            }
        }
    }

    private static void alikeSeen(String what, TierHouse x, TierHouse y, int subject) {
        Check.same(what + ": seen 0", x.seen(subject, 0), y.seen(subject, 0));
        Check.same(what + ": seen 1", x.seen(subject, 1), y.seen(subject, 1));
    }

    /** What the giver at LOW is answered, and what it pays, is the same whatever is done with the file above. */
    private static void writingUpwardsIsBlind() {
        Check.sentence("writing upwards is blind,");
        for (Request above : Request.values()) {
            for (int cells : new int[] {-1, 0, 1, 23, 24}) {
                TierHouse x = Check.peopled();
                x.quota(Check.LOW, 5);
                fileAbove(x, cells);
                for (int k = 0; k < 5; k++) {
                    String what = cells + " cells, " + above + " before " + k;
                    above.ask(x, 2, Check.HIGH, 0, above == Request.MAKE ? TierHouse.NONE : 0);
                    Check.same(what, k % 2 == 0 ? x.give(0, Check.HIGH, 0, k) : x.make(0, Check.HIGH, 0, -1), 2);
                    Check.told(what, x, Check.LOW, k + 1, k + 1, 5, 0);
                    Check.seen(what, x, 0);
                }
                Check.same("no room to give", x.give(0, Check.HIGH, 0, 9), -3);
                Check.same("no room to make", x.make(0, Check.HIGH, 0, -1), -3);
            }
        }
    }

    /** File 0 at HIGH has so many cells; -1 means that it is not there. */
    private static void fileAbove(TierHouse x, int cells) {
        if (cells >= 0) {
            x.make(2, Check.HIGH, 0, TierHouse.NONE);
        }
        for (int i = 0; i < cells; i++) {
            x.set(2, 0, i, i);
        }
    }

    /** A request takes nine calls here, with what is told, so that the runs are shorter. */
    private static void roomIsPaidByWhoWrites() {
        Check.sentence("room is paid by who writes,");
        for (int seed = 0; seed < RUNS; seed++) {
            TierHouse x = house();
            int[] before = uses(x);
            for (Asked asked : run(seed).subList(0, 50)) {
                int answer = asked.of(x);
                int[] after = uses(x);
                for (int k = 0; k < LABELS.length; k++) {
                    if (k != asked.subject || answer < 0) {
                        Check.same("run " + seed + ", " + asked + ": uses of " + LABELS[k], after[k], before[k]);
                    }
                }
                if (answer == 2 && (asked.request == Request.MAKE || asked.request == Request.GIVE)) {
                    Check.same("run " + seed + ", " + asked + ": paid", after[asked.subject], before[asked.subject] + 1);
                }
                before = after;
            }
        }
    }

    private static int[] uses(TierHouse x) {
        int[] uses = new int[LABELS.length];
        for (int k = 0; k < LABELS.length; k++) {
            uses[k] = x.told(LABELS[k], 0);
        }
        return uses;
    }

    private static void onlyWhatIsListedComesDown() {
        Check.sentence("and only what is listed comes down.");
        releaseAll(-1, Check.MID, Check.LOW);
        releaseAll(1, Check.MID, Check.LOW);
        releaseAll(0, Check.MID, Check.LOW);
        releaseAll(2, Check.HIGH, Check.ASIDE);
    }

    /** All subjects try to release from all labels to all; one way is listed, or none where it is of no subject. */
    private static void releaseAll(int listed, int listedFrom, int listedTo) {
        for (int subject = 0; subject < LABELS.length; subject++) {
            TierHouse x = house();
            if (listed >= 0) {
                x.list(listed, listedFrom, listedTo, true);
            }
            for (int from : LABELS) {
                for (int to : LABELS) {
                    boolean is = subject == listed && from == listedFrom && to == listedTo;
                    Check.same("subject " + subject + " from " + from + " to " + to, x.release(subject, from, 0, to), is ? 1 : -2);
                }
            }
            alikeLabels("subject " + subject, x, house());
        }
    }

    /** A release over a file without cells of one without cells changes nothing that is told. */
    private static void alikeLabels(String what, TierHouse x, TierHouse y) {
        for (int label : LABELS) {
            Check.told(what + ", " + label, x, label, y.told(label, 0), y.told(label, 1), y.told(label, 2), y.told(label, 3));
        }
    }
}
