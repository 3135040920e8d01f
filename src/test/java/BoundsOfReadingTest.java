/** The document's sentences on READ, SIZE, THERE and LIST, on both sides of each bound. */
final class BoundsOfReadingTest {
    /** Labels just below MID, each in one part alone. */
    private static final int[] JUST_BELOW_MID = {Check.MID - 1, Check.MID - 4, Check.MID + 64, Check.MID + 512};
    /** Labels just above MID, and others that neither flow to it nor from it. */
    private static final int[] NOT_BELOW_MID = {Check.MID + 1, Check.MID + 8, Check.MID - 64, Check.MID - 256, Check.ASIDE,
        Check.MID + 1 - 4, Check.MID + 1 + 64, Check.MID + 8 + 512};

    public static void main(String[] args) {
        Check.each(
            BoundsOfReadingTest::readOnlyWhatFlows,
            BoundsOfReadingTest::readTellsWhetherThere,
            BoundsOfReadingTest::readIsSeen,
            BoundsOfReadingTest::untilTheNextRequest,
            BoundsOfReadingTest::sizeTellsHowMany,
            BoundsOfReadingTest::thereTellsWhether,
            BoundsOfReadingTest::listOnlyWhatFlows,
            BoundsOfReadingTest::listCountsWhatFlows,
            BoundsOfReadingTest::listIsSeen,
            BoundsOfReadingTest::listIsSeenInOrder);
        Check.close("bounds of reading");
    }

    /** At each label round MID that LOW may make files at: file 0 with a cell that tells the label. */
    private static TierHouse roundMid() {
        TierHouse x = Check.peopled();
        for (int label : Check.JUST_ABOVE_MID) {
            furnish(x, label);
        }
        for (int label : Check.NOT_ABOVE_MID) {
            furnish(x, label);
        }
        return x;
    }

    private static void furnish(TierHouse x, int label) {
        x.make(0, label, 0, Check.address(Check.LOW, 0));
        x.give(0, label, 0, label);
    }

    private static void readOnlyWhatFlows() {
        Check.sentence("READ cell i of a file (-2 unless its label may flow to the subject's):");
        TierHouse x = roundMid();
        furnish(x, Check.MID);
        Check.same("its own", x.read(1, Check.MID, 0, 0), 1);
        Check.seen("its own", x, 1, Check.MID);
        for (int below : JUST_BELOW_MID) {
            Check.same("just below, " + below, x.read(1, below, 0, 0), 1);
            Check.seen("just below", x, 1, below);
        }
        for (int not : NOT_BELOW_MID) {
            Check.same("not below, " + not, x.read(1, not, 0, 0), -2);
            Check.seen("not below", x, 1);
        }
    }

    private static void readTellsWhetherThere() {
        Check.sentence("told whether it is there (1 or 0);");
        TierHouse x = Check.peopled();
        Check.same("no file", x.read(1, Check.MID, 0, 0), 0);
        x.make(1, Check.MID, 0, -1);
        for (int cells = 0; cells <= 24; cells++) {
            for (int i = Math.max(0, cells - 2); i < Math.min(24, cells + 2); i++) {
                Check.same("cell " + i + " of " + cells, x.read(1, Check.MID, 0, i), i < cells ? 1 : 0);
                Check.same("value of " + i, x.seen(1, 0), i < cells ? 100 + i : 0);
            }
            Check.same("cell 23 of " + cells, x.read(1, Check.MID, 0, 23), cells == 24 ? 1 : 0);
            if (cells < 24) {
                x.set(1, 0, cells, 100 + cells);
            }
        }
        x.trim(1, 0, 23);
        Check.same("one went", x.read(1, Check.MID, 0, 23), 0);
        x.remove(1, 0);
        Check.same("the file went", x.read(1, Check.MID, 0, 0), 0);
        Check.same("0 is a value", zeroRead(), 1);
    }

    private static int zeroRead() {
        TierHouse x = Check.peopled();
        x.make(1, Check.MID, 0, -1);
        x.set(1, 0, 0, 0);
        return x.read(1, Check.MID, 0, 0);
    }

    private static void readIsSeen() {
        Check.sentence("the value then is SEEN by that subject,");
        for (int value : new int[] {Integer.MIN_VALUE, -1, 0, 1, Integer.MAX_VALUE}) {
            TierHouse x = reading(value);
            Check.seen("value " + value, x, 1, value);
            for (int subject = 0; subject < 16; subject++) {
                Check.same("by subject " + subject, x.seen(subject, 0), subject == 1 ? value : 0);
            }
            x.set(4, 0, 0, 3);
            Check.seen("as it was then", x, 1, value);
        }
    }

    /** Subjects 1 and 4 are at MID; 1 has read the one cell of file 0 there. */
    private static TierHouse reading(int value) {
        TierHouse x = Check.peopled();
        x.subject(4, Check.MID);
        x.make(1, Check.MID, 0, Check.address(Check.MID, 0));
        x.set(1, 0, 0, value);
        x.read(1, Check.MID, 0, 0);
        return x;
    }

    /** Each request that is answered ends what was seen, whatever the answer; another subject's does not. */
    private static void untilTheNextRequest() {
        Check.sentence("until its next request.");
        for (Request request : Request.values()) {
            for (int label : new int[] {Check.LOW, Check.MID, Check.HIGH}) {
                for (int number = 0; number < 2; number++) {
                    TierHouse x = reading(70);
                    request.ask(x, 4, label, number, 23);
                    Check.seen(request + " of another at " + label, x, 1, 70);
                    TierHouse y = reading(70);
                    request.ask(y, 1, label, number, 23);
                    Check.same(request + " at " + label, y.seen(1, 0) == 70, false);
                    TierHouse z = reading(70);
                    z.quota(Check.MID, 0);
                    z.quota(23, 0);
                    z.list(1, Check.MID, 23, true);
                    request.ask(z, 1, label, number, request == Request.SET ? 1 : 23);
                    Check.same(request + " without room at " + label, z.seen(1, 0) == 70, false);
                }
            }
        }
        TierHouse x = reading(70);
        x.subject(1, Check.LOW);
        x.quota(Check.MID, 9);
        x.list(1, Check.MID, Check.LOW, true);
        x.flows(Check.MID, Check.LOW);
        x.told(Check.MID, 0);
        x.seen(1, 1);
        Check.seen("what is no request", x, 1, 70);
        Check.illegal("a request that throws", () -> x.remove(1, 16));
        Check.seen("what throws changes nothing", x, 1, 70);
    }

    private static void sizeTellsHowMany() {
        Check.sentence("SIZE of a file (-2 likewise): how many cells; 0 if it is not there.");
        likewise(Request.SIZE);
        TierHouse x = Check.peopled();
        Check.same("not there", x.size(1, Check.MID, 0), 0);
        x.make(1, Check.MID, 0, -1);
        for (int cells = 0; cells <= 24; cells++) {
            Check.same("cells", x.size(1, Check.MID, 0), cells);
            if (cells < 24) {
                x.set(1, 0, cells, 0);
            }
        }
        x.remove(1, 0);
        Check.same("not there any more", x.size(1, Check.MID, 0), 0);
    }

    private static void thereTellsWhether() {
        Check.sentence("THERE (-2 likewise): 1 or 0.");
        likewise(Request.THERE);
        TierHouse x = Check.peopled();
        Check.same("not there", x.there(1, Check.MID, 0), 0);
        x.make(1, Check.MID, 0, -1);
        Check.same("there, without cells", x.there(1, Check.MID, 0), 1);
        x.set(1, 0, 0, 1);
        x.set(1, 0, 1, 1);
        Check.same("there, with two", x.there(1, Check.MID, 0), 1);
        x.remove(1, 0);
        Check.same("not there any more", x.there(1, Check.MID, 0), 0);
    }

    /** The files round MID have one cell each, so that SIZE and THERE answer 1. */
    private static void likewise(Request request) {
        TierHouse x = roundMid();
        for (int below : JUST_BELOW_MID) {
            Check.same("just below, " + below, request.ask(x, 1, below, 0, 0), 1);
            Check.same("not there, " + below, request.ask(x, 1, below, 1, 0), 0);
        }
        for (int not : NOT_BELOW_MID) {
            Check.same("not below, " + not, request.ask(x, 1, not, 0, 0), -2);
            Check.same("not below, not there, " + not, request.ask(x, 1, not, 1, 0), -2);
        }
    }

    private static void listOnlyWhatFlows() {
        Check.sentence("LIST the files whose folder is a file (-2 unless that one's label may flow to the subject's):");
        TierHouse x = Check.peopled();
        x.make(1, Check.MID, 0, Check.address(Check.MID, 3));
        x.make(2, Check.HIGH, 0, Check.address(Check.MID, 3));
        Check.same("its own", x.listed(1, Check.MID, 3), 1);
        Check.same("the number before", x.listed(1, Check.MID, 2), 0);
        Check.same("the number behind", x.listed(1, Check.MID, 4), 0);
        for (int below : JUST_BELOW_MID) {
            Check.same("just below, " + below, x.listed(1, below, 3), 0);
        }
        for (int not : NOT_BELOW_MID) {
            Check.same("not below, " + not, x.listed(1, not, 3), -2);
            Check.seen("nothing", x, 1);
        }
        x.make(1, Check.MID, 1, -1);
        x.make(1, Check.MID, 2, Check.address(Check.LOW, 3));
        Check.same("without folder, and with another label's", x.listed(1, Check.MID, 3), 1);
        Check.same("without folder it is in none", x.listed(1, Check.LOW, 15), 0);
    }

    private static void listCountsWhatFlows() {
        Check.sentence("how many there are at labels that may flow to the subject's;");
        TierHouse x = roundMid();
        Check.same("below, nothing at its own", x.listed(1, Check.LOW, 0), JUST_BELOW_MID.length);
        furnish(x, Check.MID);
        Check.same("and its own", x.listed(1, Check.LOW, 0), JUST_BELOW_MID.length + 1);
        Check.same("all, seen from above", x.listed(2, Check.LOW, 0), 13);
        Check.same("none, seen from below", x.listed(0, Check.LOW, 0), 0);
        Check.seen("none", x, 0);
        x.make(0, Check.LOW, 0, Check.address(Check.LOW, 0));
        Check.same("one, seen from below", x.listed(0, Check.LOW, 0), 1);
        Check.seen("one", x, 0, Check.address(Check.LOW, 0));
    }

    private static void listIsSeen() {
        Check.sentence("they are SEEN by that subject, until its next request:");
        TierHouse x = roundMid();
        x.listed(2, Check.LOW, 0);
        x.listed(1, Check.LOW, 0);
        Check.same("four", x.seen(1, 3) != 0 && x.seen(1, 4) == 0, true);
        Check.same("twelve", x.seen(2, 11) != 0 && x.seen(2, 12) == 0, true);
        Check.seen("none by another", x, 3);
        x.listed(2, Check.LOW, 1);
        Check.seen("an empty one comes in its place", x, 2);
        Check.same("the other's stays", x.seen(1, 3) != 0, true);
        x.there(1, Check.MID, 0);
        Check.seen("until another request", x, 1);
        x.listed(1, Check.LOW, 0);
        x.read(1, Check.MID - 1, 0, 0);
        Check.seen("a shorter one leaves nothing behind it", x, 1, Check.MID - 1);
        x.listed(1, Check.LOW, 0);
        Check.illegal("a request that throws", () -> x.listed(1, Check.LOW, 16));
        Check.same("leaves what was seen", x.seen(1, 3) != 0, true);
    }

    private static void listIsSeenInOrder() {
        Check.sentence("by labels, then by numbers, as 16 label + number.");
        TierHouse x = new TierHouse();
        x.subject(0, 0);
        int[] labels = {63, 0, 5, 4};
        int[] numbers = {15, 0, 8, 1};
        for (int label : labels) {
            for (int number : numbers) {
                x.make(0, label, number, 0);
            }
        }
        x.subject(1, 63);
        Check.same("all", x.listed(1, 0, 0), 16);
        Check.seen("from the first address to the last", x, 1,
            0, 1, 8, 15, 64, 65, 72, 79, 80, 81, 88, 95, 1008, 1009, 1016, 1023);
        Check.same("its own alone", x.listed(0, 0, 0), 4);
        Check.seen("its own alone", x, 0, 0, 1, 8, 15);
        TierHouse y = new TierHouse();
        y.subject(0, 1023);
        y.make(0, 1023, 15, 16383);
        Check.same("the last of all", y.listed(0, 1023, 15), 1);
        Check.seen("the last of all", y, 0, 16383);
    }
}
