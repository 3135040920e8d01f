/** The document's sentences on labels, on both sides of each bound. */
final class BoundsOfLabelsTest {
    private static final int SECRECY = 3;
    private static final int SECRETS = 60;
    private static final int TRUST = 192;
    private static final int WARRANTS = 768;

    private interface Order {
        boolean flows(int a, int b);
    }

    public static void main(String[] args) {
        Check.each(
            BoundsOfLabelsTest::labelsAre0To1023,
            BoundsOfLabelsTest::secrecyIsBits0And1,
            BoundsOfLabelsTest::secretsAreBits2To5,
            BoundsOfLabelsTest::trustIsBits6And7,
            BoundsOfLabelsTest::warrantsAreBits8And9,
            BoundsOfLabelsTest::secrecyIsNotAbove,
            BoundsOfLabelsTest::secretsAreAllAmong,
            BoundsOfLabelsTest::trustIsNotBelow,
            BoundsOfLabelsTest::warrantsAreAllAmong,
            BoundsOfLabelsTest::aboveIsNotItself);
        Check.close("bounds of labels");
    }

    private static void labelsAre0To1023() {
        Check.sentence("A LABEL is a number 0 .. 1023:");
        for (int label : new int[] {0, 1023}) {
            askOfLabel(label, true);
        }
        for (int label : new int[] {-1, 1024, -1024, 1024 + Check.LOW, Integer.MIN_VALUE, Integer.MAX_VALUE}) {
            askOfLabel(label, false);
        }
    }

    private static void askOfLabel(int label, boolean is) {
        TierHouse x = Check.peopled();
        Check.legal("subject at " + label, is, () -> x.subject(4, label));
        Check.legal("quota of " + label, is, () -> x.quota(label, 40));
        Check.legal("list from " + label, is, () -> x.list(0, label, 5, true));
        Check.legal("list to " + label, is, () -> x.list(0, 5, label, true));
        Check.legal("list from no more " + label, is, () -> x.list(0, label, 5, false));
        Check.legal("list to no more " + label, is, () -> x.list(0, 5, label, false));
        Check.legal("flows from " + label, is, () -> x.flows(label, 5));
        Check.legal("flows to " + label, is, () -> x.flows(5, label));
        Check.legal("release to " + label, is, () -> x.release(0, 5, 0, label));
        for (int told = 0; told < 4; told++) {
            int what = told;
            Check.legal("told " + what + " of " + label, is, () -> x.told(label, what));
        }
        for (Request request : Request.values()) {
            if (request.tellsLabel()) {
                Check.legal(request + " at " + label, is, () -> request.ask(x, 0, label, 0, 0));
                Check.legal(request + " at " + label + " without a label", is, () -> request.ask(x, 15, label, 0, 0));
            }
        }
    }

    private static void secrecyIsBits0And1() {
        Check.sentence("its SECRECY (bits 0, 1),");
        oneWay("a number: both bits count together", 1, 2);
        oneWay("bit 0 is the lesser one", 2, 3);
        noWay("bit 2 is none of it", 2, 4);
    }

    private static void secretsAreBits2To5() {
        Check.sentence("its SECRETS (a set of four, bits 2 to 5),");
        for (int secret = 4; secret < 32; secret *= 2) {
            noWay("a set: each is another", secret, 2 * secret);
        }
        noWay("bit 1 is none of it", 2, 4);
        oneWay("bit 6 is none of it", 64, 32);
    }

    private static void trustIsBits6And7() {
        Check.sentence("its TRUST (bits 6, 7),");
        oneWay("a number: both bits count together", 128, 64);
        oneWay("bit 6 is the lesser one", 192, 128);
        oneWay("bit 5 is none of it", 64, 32);
        noWay("bit 8 is none of it", 128, 256);
    }

    private static void warrantsAreBits8And9() {
        Check.sentence("its WARRANTS (a set of two, bits 8, 9).");
        noWay("a set: each is another", 256, 512);
        noWay("bit 7 is none of it", 128, 256);
        oneWay("the first can go", 768, 512);
        oneWay("the last can go", 768, 256);
    }

    private static void oneWay(String what, int from, int to) {
        TierHouse x = new TierHouse();
        Check.same(what + ", " + from + " to " + to, x.flows(from, to), true);
        Check.same(what + ", " + to + " to " + from, x.flows(to, from), false);
    }

    private static void noWay(String what, int one, int other) {
        TierHouse x = new TierHouse();
        Check.same(what + ", " + one + " to " + other, x.flows(one, other), false);
        Check.same(what + ", " + other + " to " + one, x.flows(other, one), false);
    }

    private static void secrecyIsNotAbove() {
        Check.sentence("What is at label a MAY FLOW to label b if a's secrecy is not above b's,");
        allPairs(SECRECY, 1, (a, b) -> a <= b);
    }

    private static void secretsAreAllAmong() {
        Check.sentence("a's secrets are all among b's,");
        allPairs(SECRETS, 4, (a, b) -> (a | b) == b);
    }

    private static void trustIsNotBelow() {
        Check.sentence("a's trust is not below b's,");
        allPairs(TRUST, 64, (a, b) -> a >= b);
    }

    private static void warrantsAreAllAmong() {
        Check.sentence("and b's warrants are all among a's.");
        allPairs(WARRANTS, 256, (a, b) -> (a | b) == a);
    }

    /** Labels that differ in one part alone, whatever the other parts are. */
    private static void allPairs(int part, int unit, Order due) {
        for (int others : new int[] {0, 1023 - part, Check.MID & ~part}) {
            TierHouse x = new TierHouse();
            for (int a = 0; a <= part / unit; a++) {
                for (int b = 0; b <= part / unit; b++) {
                    int from = others + a * unit;
                    int to = others + b * unit;
                    Check.same("flows(" + from + ", " + to + ")", x.flows(from, to), due.flows(a, b));
                }
            }
        }
    }

    private static void aboveIsNotItself() {
        Check.sentence("It is ABOVE a if a may flow to it and it is not a.");
        Check.same("itself", Check.peopled().give(1, Check.MID, 0, 1), -2);
        for (int above : Check.JUST_ABOVE_MID) {
            Check.same("just above, " + above, Check.peopled().give(1, above, 0, 1), 2);
        }
        for (int not : Check.NOT_ABOVE_MID) {
            Check.same("not above, " + not, Check.peopled().give(1, not, 0, 1), -2);
        }
    }
}
