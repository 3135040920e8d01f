/** The document's sentences on RELEASE, on both sides of each bound. */
final class BoundsOfReleaseTest {
    public static void main(String[] args) {
        Check.each(
            BoundsOfReleaseTest::onlyWhatIsListed,
            BoundsOfReleaseTest::notThere,
            BoundsOfReleaseTest::theSameCells,
            BoundsOfReleaseTest::noGifts,
            BoundsOfReleaseTest::folderAsBefore,
            BoundsOfReleaseTest::noMoreThanTheQuota,
            BoundsOfReleaseTest::inTheRoomOfTheOld);
        Check.close("bounds of release");
    }

    /** Subject 1 may release from MID to LOW, where file 5 has so many cells, every other one a gift. */
    private static TierHouse releasing(int cells) {
        TierHouse x = Check.peopled();
        x.list(1, Check.MID, Check.LOW, true);
        x.make(3, Check.HIGH, 0, -1);
        x.make(1, Check.MID, 5, Check.address(Check.MID, 9));
        for (int i = 0; i < cells; i++) {
            if (i % 2 == 0) {
                x.set(1, 5, i, 100 + i);
            } else {
                x.give(0, Check.MID, 5, 100 + i);
            }
        }
        return x;
    }

    private static void onlyWhatIsListed() {
        Check.sentence("RELEASE a file to another label (-2 unless that subject, file's label and other label are LISTED):");
        TierHouse x = releasing(1);
        x.subject(4, Check.MID);
        Check.same("another subject of that label", x.release(4, Check.MID, 5, Check.LOW), -2);
        Check.same("another file's label", x.release(1, Check.MID - 1, 5, Check.LOW), -2);
        Check.same("another other label", x.release(1, Check.MID, 5, Check.LOW - 1), -2);
        Check.same("the other way round", x.release(1, Check.LOW, 5, Check.MID), -2);
        Check.same("the same label", x.release(1, Check.MID, 5, Check.MID), -2);
        Check.same("upwards, but unlisted", x.release(1, Check.MID, 5, Check.HIGH), -2);
        Check.same("nothing came", x.told(Check.LOW, 3) + x.told(Check.LOW - 1, 3), 0);
        Check.same("listed", x.release(1, Check.MID, 5, Check.LOW), 1);
        x.list(1, Check.MID, Check.LOW, false);
        Check.same("no more", x.release(1, Check.MID, 5, Check.LOW), -2);
        x.list(0, Check.MID, Check.ASIDE, true);
        Check.same("listed, of a label that may not flow to the subject's", x.release(0, Check.MID, 5, Check.ASIDE), 1);
        x.list(0, Check.HIGH, Check.MID, true);
        Check.same("whatever the subject's label", x.release(0, Check.HIGH, 0, Check.MID), 1);
    }

    private static void notThere() {
        Check.sentence("0 if it is not there;");
        TierHouse x = releasing(2);
        x.make(0, Check.LOW, 4, -1);
        x.set(0, 4, 0, 1);
        Check.same("the number before", x.release(1, Check.MID, 4, Check.LOW), 0);
        Check.same("the number behind", x.release(1, Check.MID, 6, Check.LOW), 0);
        Check.same("what has that number stays as it is", x.size(0, Check.LOW, 4), 1);
        Check.same("nothing is made", x.told(Check.LOW, 3), 1);
        x.quota(Check.LOW, 0);
        Check.same("0 where there is no room either", x.release(1, Check.MID, 6, Check.LOW), 0);
        x.quota(Check.LOW, 40);
        Check.same("there", x.release(1, Check.MID, 5, Check.LOW), 1);
        x.remove(1, 5);
        Check.same("not any more", x.release(1, Check.MID, 5, Check.LOW), 0);
        Check.same("what came stays", x.size(0, Check.LOW, 5), 2);
    }

    private static void theSameCells() {
        Check.sentence("otherwise the file with its number at the other label becomes one with the same cells");
        for (int cells : new int[] {0, 1, 2, 23, 24}) {
            for (int old : new int[] {-1, 0, 1, 24}) {
                TierHouse x = releasing(cells);
                x.quota(Check.LOW, 100);
                oldFile(x, old);
                Check.same(cells + " over " + old, x.release(1, Check.MID, 5, Check.LOW), 1);
                sameCells(x, cells);
                Check.same("its own stays", x.size(1, Check.MID, 5), cells);
            }
        }
    }

    /** File 5 at LOW has so many cells before; -1 means that it is not there. */
    private static void oldFile(TierHouse x, int cells) {
        if (cells >= 0) {
            x.make(0, Check.LOW, 5, -1);
        }
        for (int i = 0; i < cells; i++) {
            x.set(0, 5, i, 7);
        }
    }

    private static void sameCells(TierHouse x, int cells) {
        Check.same("there", x.there(0, Check.LOW, 5), 1);
        Check.same("so many", x.size(0, Check.LOW, 5), cells);
        for (int i = 0; i < 24; i++) {
            Check.same("cell " + i, x.read(0, Check.LOW, 5, i), i < cells ? 1 : 0);
            Check.same("value " + i, x.seen(0, 0), i < cells ? 100 + i : 0);
        }
        if (cells > 0) {
            x.set(0, 5, 0, 1);
            x.read(1, Check.MID, 5, 0);
            Check.seen("they are others than the first file's", x, 1, 100);
        }
    }

    private static void noGifts() {
        Check.sentence("(none of them a gift, nor is it),");
        TierHouse x = releasing(24);
        Check.told("half are gifts", x, Check.MID, 13, 0, 40, 1);
        Check.same("to a new file", x.release(1, Check.MID, 5, Check.LOW), 1);
        Check.told("file and cells are used", x, Check.LOW, 12 + 25, 12, 40, 1);
        TierHouse y = releasing(3);
        y.list(1, Check.MID, Check.HIGH, true);
        y.make(0, Check.HIGH, 5, -1);
        y.give(0, Check.HIGH, 5, 1);
        y.give(0, Check.HIGH, 5, 2);
        y.give(0, Check.HIGH, 5, 3);
        y.give(0, Check.HIGH, 5, 4);
        Check.told("a gift with gifts", y, Check.HIGH, 0, 0, 40, 2);
        Check.same("to an old file", y.release(1, Check.MID, 5, Check.HIGH), 1);
        Check.told("file and cells are used", y, Check.HIGH, 4, 0, 40, 2);
        y.trim(2, 5, 2);
        Check.told("a cell goes", y, Check.HIGH, 3, 0, 40, 2);
        y.set(2, 5, 2, 1);
        Check.told("a cell comes", y, Check.HIGH, 4, 0, 40, 2);
        Check.told("the first file keeps its gifts", y, Check.MID, 3, 0, 40, 1);
        giftFileReleased();
    }

    private static void giftFileReleased() {
        TierHouse x = Check.peopled();
        x.list(1, Check.MID, Check.ASIDE, true);
        x.make(0, Check.MID, 0, -1);
        Check.same("a gift without cells", x.release(1, Check.MID, 0, Check.ASIDE), 1);
        Check.told("it is none there", x, Check.ASIDE, 1, 0, 40, 1);
        Check.told("it is one here", x, Check.MID, 0, 0, 40, 1);
    }

    private static void folderAsBefore() {
        Check.sentence("with its folder as before if it was there, without one if not: 1;");
        TierHouse x = releasing(1);
        Check.same("not there", x.release(1, Check.MID, 5, Check.LOW), 1);
        Check.same("none", inFolders(x, 0), 0);
        Check.same("again, there without one", x.release(1, Check.MID, 5, Check.LOW), 1);
        Check.same("none still", inFolders(x, 0), 0);
        x.remove(0, 5);
        x.make(0, Check.LOW, 5, Check.address(Check.LOW, 9));
        Check.same("there with one", x.release(1, Check.MID, 5, Check.LOW), 1);
        Check.same("it has it", x.listed(0, Check.LOW, 9), 1);
        Check.same("and no other", inFolders(x, 0), 1);
        x.remove(0, 5);
        Check.same("not there any more", x.release(1, Check.MID, 5, Check.LOW), 1);
        Check.same("none again", inFolders(x, 0), 0);
        Check.same("the first file has its own", x.listed(1, Check.MID, 9), 1);
    }

    /** How many of LOW's files are in folders that a file at LOW can have. */
    private static int inFolders(TierHouse x, int subject) {
        int count = 0;
        for (int number = 0; number < 16; number++) {
            count += x.listed(subject, Check.LOW, number);
        }
        return count;
    }

    private static void noMoreThanTheQuota() {
        Check.sentence("-3 if that label would use more than its quota.");
        for (int cells : new int[] {0, 1, 24}) {
            TierHouse x = releasing(cells);
            x.quota(Check.MID, 0);
            int spent = cells / 2;
            x.quota(Check.LOW, spent + cells);
            Check.same("one too few for cells " + cells, x.release(1, Check.MID, 5, Check.LOW), -3);
            Check.told("refused", x, Check.LOW, spent, spent, spent + cells, 0);
            x.quota(Check.LOW, spent + cells + 1);
            Check.same("just enough for cells " + cells, x.release(1, Check.MID, 5, Check.LOW), 1);
            Check.told("full", x, Check.LOW, spent + cells + 1, spent, spent + cells + 1, 1);
        }
        TierHouse y = releasing(2);
        y.quota(Check.MID, 0);
        Check.same("neither the file's nor the subject's label pays", y.release(1, Check.MID, 5, Check.LOW), 1);
    }

    private static void inTheRoomOfTheOld() {
        Check.sentence("-3 if that label would use more than its quota.");
        for (int old : new int[] {0, 1, 2, 3, 24}) {
            TierHouse x = releasing(2);
            oldFile(x, old);
            x.quota(Check.LOW, 3);
            Check.same("1 spent and 3 over " + old, x.release(1, Check.MID, 5, Check.LOW), -3);
            Check.told("refused", x, Check.LOW, 2 + old, 1, 3, 1);
            x.quota(Check.LOW, 4);
            Check.same("just enough over " + old, x.release(1, Check.MID, 5, Check.LOW), 1);
            Check.told("full", x, Check.LOW, 4, 1, 4, 1);
        }
        TierHouse y = releasing(2);
        y.list(1, Check.MID, Check.HIGH, true);
        y.make(1, Check.HIGH, 5, -1);
        y.give(1, Check.HIGH, 5, 1);
        y.quota(Check.HIGH, 2);
        Check.same("a gift's room is not its own", y.release(1, Check.MID, 5, Check.HIGH), -3);
        Check.told("it stays a gift", y, Check.HIGH, 0, 0, 2, 2);
        Check.same("with its cell", y.size(2, Check.HIGH, 5), 1);
        y.quota(Check.HIGH, 3);
        Check.same("just enough over a gift", y.release(1, Check.MID, 5, Check.HIGH), 1);
    }
}
