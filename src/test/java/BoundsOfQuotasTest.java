/** The document's sentences on quotas, on what a label uses and on what its subjects spent. */
final class BoundsOfQuotasTest {
    public static void main(String[] args) {
        Check.each(
            BoundsOfQuotasTest::fortyAtFirst,
            BoundsOfQuotasTest::eachLabelHasItsOwn,
            BoundsOfQuotasTest::filesAndCellsAreUsed,
            BoundsOfQuotasTest::whatCameFromOthersIsNot,
            BoundsOfQuotasTest::spentIsUsed,
            BoundsOfQuotasTest::spentNeverComesBack,
            BoundsOfQuotasTest::neverMoreThanTheQuota,
            BoundsOfQuotasTest::quotaOfNothing,
            BoundsOfQuotasTest::whatUsesNoMore);
        Check.close("bounds of quotas");
    }

    private static void fortyAtFirst() {
        Check.sentence("Each label has a QUOTA (40 at first).");
        TierHouse x = Check.peopled();
        fill(x, 1, 39);
        Check.told("one is left", x, Check.MID, 39, 0, 40, 2);
        Check.same("the 40th", x.set(1, 1, 13, 0), 1);
        Check.told("none is left", x, Check.MID, 40, 0, 40, 2);
        Check.same("a 41st", x.set(1, 1, 14, 0), -3);
        Check.same("a file", x.make(1, Check.MID, 2, -1), -3);
        Check.told("none was taken", x, Check.MID, 40, 0, 40, 2);
        TierHouse y = Check.peopled();
        for (int k = 1; k <= 42; k++) {
            Check.same("gift " + k, y.give(0, Check.MID, 0, k), k <= 40 ? 2 : -3);
        }
        Check.told("all is spent", y, Check.LOW, 40, 40, 40, 0);
    }

    /** The subject's own label uses so much then, by files 0, 1 .. with 24 cells and one with the rest. */
    private static void fill(TierHouse x, int subject, int used) {
        for (int k = 0; k < used; k++) {
            if (k % 25 == 0) {
                x.make(subject, Check.ownLabel(subject), k / 25, -1);
            } else {
                x.set(subject, k / 25, k % 25 - 1, k);
            }
        }
    }

    private static void eachLabelHasItsOwn() {
        Check.sentence("Each label has a QUOTA");
        TierHouse x = Check.peopled();
        for (int label = 0; label < 32; label++) {
            x.quota(label * 33, label);
        }
        for (int label = 0; label < 32; label++) {
            Check.same("quota of " + label * 33, x.told(label * 33, 2), label);
            Check.same("quota behind " + label * 33, x.told(label * 33 + 1 & 1023, 2), label == 31 ? 0 : 40);
        }
        fill(x, 1, 40);
        Check.same("MID is full", x.make(1, Check.MID, 9, -1), -3);
        Check.same("LOW is not", x.make(0, Check.LOW, 9, -1), 1);
        Check.same("ASIDE is not", x.make(3, Check.ASIDE, 9, -1), 1);
    }

    private static void filesAndCellsAreUsed() {
        Check.sentence("What it USES is one for each file that is there at it and one for each cell in these,");
        TierHouse x = Check.peopled();
        x.quota(Check.MID, 1000);
        Check.told("nothing", x, Check.MID, 0, 0, 1000, 0);
        for (int number = 0; number < 16; number++) {
            x.make(1, Check.MID, number, -1);
            Check.told("file " + number, x, Check.MID, 4 * number + 1, 0, 1000, number + 1);
            x.set(1, number, 0, 0);
            x.set(1, number, 1, 0);
            x.set(1, number, 2, 0);
            Check.told("three cells", x, Check.MID, 4 * number + 4, 0, 1000, number + 1);
        }
        x.trim(1, 15, 2);
        Check.told("a cell less", x, Check.MID, 63, 0, 1000, 16);
        x.remove(1, 15);
        Check.told("a file less", x, Check.MID, 60, 0, 1000, 15);
        x.remove(1, 0);
        Check.told("the first less", x, Check.MID, 56, 0, 1000, 14);
        Check.told("not a label behind", x, Check.MID + 1, 0, 0, 40, 0);
        Check.told("not a label before", x, Check.MID - 1, 0, 0, 40, 0);
    }

    private static void whatCameFromOthersIsNot() {
        Check.sentence("but for files and cells that came from other labels;");
        TierHouse x = Check.peopled();
        x.make(0, Check.MID, 0, -1);
        Check.told("a file from LOW", x, Check.MID, 0, 0, 40, 1);
        x.give(0, Check.MID, 0, 1);
        Check.told("a cell from LOW in it", x, Check.MID, 0, 0, 40, 1);
        x.set(1, 0, 1, 2);
        Check.told("its own cell in it", x, Check.MID, 1, 0, 40, 1);
        x.make(1, Check.MID, 1, -1);
        Check.told("its own file", x, Check.MID, 2, 0, 40, 2);
        x.give(0, Check.MID, 1, 3);
        Check.told("a cell from LOW in that", x, Check.MID, 2, 0, 40, 2);
        x.trim(1, 0, 1);
        Check.told("without its own cell", x, Check.MID, 1, 0, 40, 2);
        x.remove(1, 0);
        Check.told("without the file from LOW", x, Check.MID, 1, 0, 40, 1);
        x.remove(1, 1);
        Check.told("without its own file", x, Check.MID, 0, 0, 40, 0);
    }

    private static void spentIsUsed() {
        Check.sentence("and what its subjects SPENT on cells at other labels,");
        TierHouse x = Check.peopled();
        x.subject(4, Check.LOW);
        x.give(0, Check.MID, 0, 1);
        Check.told("one subject of it", x, Check.LOW, 1, 1, 40, 0);
        x.give(4, Check.HIGH, 0, 1);
        Check.told("another subject of it", x, Check.LOW, 2, 2, 40, 0);
        x.make(4, Check.ASIDE, 0, -1);
        Check.told("a file there", x, Check.LOW, 3, 3, 40, 0);
        x.give(1, Check.HIGH, 0, 1);
        Check.told("not a subject of another", x, Check.LOW, 3, 3, 40, 0);
        x.make(0, Check.LOW, 0, -1);
        x.set(0, 0, 0, 1);
        Check.told("its own cells are not spent", x, Check.LOW, 5, 3, 40, 1);
    }

    private static void spentNeverComesBack() {
        Check.sentence("which never comes back.");
        TierHouse x = Check.peopled();
        x.quota(Check.LOW, 2);
        x.make(0, Check.MID, 0, -1);
        x.give(0, Check.MID, 0, 1);
        x.give(1, Check.HIGH, 0, 1);
        x.trim(1, 0, 0);
        Check.told("the cell is gone", x, Check.LOW, 2, 2, 2, 0);
        x.remove(1, 0);
        Check.told("the file is gone", x, Check.LOW, 2, 2, 2, 0);
        Check.told("what its own label spent is not", x, Check.MID, 1, 1, 40, 0);
        x.list(0, Check.MID, Check.LOW, true);
        x.release(0, Check.MID, 0, Check.LOW);
        Check.same("so nothing is left to use", x.make(0, Check.LOW, 0, -1), -3);
        x.quota(Check.LOW, 3);
        Check.same("but what the quota gives", x.make(0, Check.LOW, 0, -1), 1);
        x.remove(0, 0);
        Check.told("what is not spent does come back", x, Check.LOW, 2, 2, 3, 0);
    }

    /** Each request that uses more, where it just may and where it just may not. */
    private static void neverMoreThanTheQuota() {
        Check.sentence("More than the quota is never used by a request: it is refused, -3.");
        for (int quota = 6; quota <= 8; quota++) {
            for (int kind = 0; kind < 6; kind++) {
                TierHouse x = nearlyFull(quota);
                TierHouse y = nearlyFull(quota);
                Check.same("kind " + kind + ", quota " + quota, using(x, kind), quota < 8 ? -3 : kind < 2 ? 1 : 2);
                if (quota < 8) {
                    Check.alike("refused, kind " + kind + ", quota " + quota, x, y);
                } else {
                    Check.same("now full, kind " + kind, x.told(Check.LOW, 0), 8);
                    Check.same("no more, kind " + kind, x.make(0, Check.LOW, 12, -1), -3);
                }
            }
            released(quota);
        }
    }

    /** LOW uses 7: file 0 with 3 cells, file 1, and 2 spent on file 0 at MID. */
    private static TierHouse nearlyFull(int quota) {
        TierHouse x = Check.peopled();
        x.make(0, Check.LOW, 0, -1);
        x.set(0, 0, 0, 5);
        x.set(0, 0, 1, 6);
        x.set(0, 0, 2, 7);
        x.make(0, Check.LOW, 1, -1);
        x.make(0, Check.MID, 0, -1);
        x.give(0, Check.MID, 0, 8);
        x.quota(Check.LOW, quota);
        return x;
    }

    private static int using(TierHouse x, int kind) {
        switch (kind) {
            case 0: return x.make(0, Check.LOW, 2, -1);
            case 1: return x.set(0, 0, 3, 1);
            case 2: return x.make(0, Check.MID, 1, -1);
            case 3: return x.make(0, Check.MID, 0, -1);
            case 4: return x.give(0, Check.MID, 0, 1);
            default: return x.give(0, Check.MID, 1, 1);
        }
    }

    private static void released(int quota) {
        for (int cells = 0; cells < 3; cells++) {
            TierHouse x = releasing(quota, cells);
            TierHouse y = releasing(quota, cells);
            int answer = 7 + 1 + cells <= quota ? 1 : -3;
            Check.same("a new file with cells " + cells + ", quota " + quota, x.release(2, Check.HIGH, 2, Check.LOW), answer);
            if (answer == -3) {
                Check.alike("release refused", x, y);
            }
        }
    }

    private static TierHouse releasing(int quota, int cells) {
        TierHouse x = nearlyFull(quota);
        x.list(2, Check.HIGH, Check.LOW, true);
        x.make(2, Check.HIGH, 2, -1);
        for (int i = 0; i < cells; i++) {
            x.set(2, 2, i, i);
        }
        return x;
    }

    private static void quotaOfNothing() {
        Check.sentence("More than the quota is never used by a request:");
        TierHouse x = Check.peopled();
        x.quota(Check.LOW, 0);
        Check.same("no file", x.make(0, Check.LOW, 0, -1), -3);
        Check.same("no file above", x.make(0, Check.MID, 0, -1), -3);
        Check.same("no gift", x.give(0, Check.MID, 0, 1), -3);
        Check.same("nothing made", x.there(1, Check.MID, 0), 0);
        x.quota(Check.LOW, 1);
        Check.same("one file", x.make(0, Check.LOW, 0, -1), 1);
        Check.same("no cell", x.set(0, 0, 0, 1), -3);
        Check.told("one is used", x, Check.LOW, 1, 0, 1, 1);
    }

    /** At the quota and above it all stays allowed that uses no more than before. */
    private static void whatUsesNoMore() {
        Check.sentence("More than the quota is never used by a request: it is refused, -3.");
        for (int quota : new int[] {7, 6, 0}) {
            TierHouse x = nearlyFull(quota);
            Check.same("MAKE, there already", x.make(0, Check.LOW, 0, -1), 0);
            Check.same("SET in an old place", x.set(0, 0, 2, 9), 1);
            Check.same("SET too far behind", x.set(0, 0, 4, 9), 0);
            Check.same("SET, no file", x.set(0, 5, 0, 9), 0);
            Check.same("READ", x.read(0, Check.LOW, 0, 2), 1);
            Check.seen("its value", x, 0, 9);
            Check.same("SIZE", x.size(0, Check.LOW, 0), 3);
            Check.same("THERE", x.there(0, Check.LOW, 0), 1);
            Check.same("LIST", x.listed(0, Check.LOW, 0), 0);
            Check.same("RELEASE from it", releaseUpwards(x), 1);
            Check.same("TRIM", x.trim(0, 0, 2), 1);
            Check.same("REMOVE", x.remove(0, 1), 1);
            Check.told("what is left", x, Check.LOW, 5, 2, quota, 1);
        }
    }

    private static int releaseUpwards(TierHouse x) {
        x.list(0, Check.LOW, Check.MID, true);
        return x.release(0, Check.LOW, 1, Check.MID);
    }
}
