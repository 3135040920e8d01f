/** The document's sentences on MAKE, SET, GIVE, TRIM and REMOVE, on both sides of each bound. */
final class BoundsOfWritingTest {
    public static void main(String[] args) {
        Check.each(
            BoundsOfWritingTest::makeMayNot,
            BoundsOfWritingTest::makeAtItsOwn,
            BoundsOfWritingTest::makeAboveCosts,
            BoundsOfWritingTest::makeAboveWhatIsThereOrNot,
            BoundsOfWritingTest::setInAnOldPlace,
            BoundsOfWritingTest::setJustBehind,
            BoundsOfWritingTest::setOtherwise,
            BoundsOfWritingTest::giveOnlyAbove,
            BoundsOfWritingTest::giveCosts,
            BoundsOfWritingTest::giveToLessThan24,
            BoundsOfWritingTest::trimTellsHowMany,
            BoundsOfWritingTest::trimNotSoMany,
            BoundsOfWritingTest::removeTellsWhetherThere);
        Check.close("bounds of writing");
    }

    private static void makeMayNot() {
        Check.sentence("MAKE a file at a label (-2 unless the subject's may flow to it,"
            + " and the folder's label, if one is told, to that label):");
        TierHouse x = Check.peopled();
        Check.same("its own", x.make(1, Check.MID, 0, -1), 1);
        for (int above : Check.JUST_ABOVE_MID) {
            Check.same("just above, " + above, x.make(1, above, 0, -1), 2);
            Check.same("a folder between", x.make(0, above, 1, Check.address(Check.MID, 0)), 2);
            Check.same("a folder just above", x.make(1, Check.MID, 1, Check.address(above, 0)), -2);
        }
        for (int not : Check.NOT_ABOVE_MID) {
            Check.same("not above, " + not, x.make(1, not, 2, -1), -2);
            Check.same("that one's folder", x.make(0, not, 2, Check.address(Check.MID, 0)), -2);
            Check.same("nothing is made", x.told(not, 3), 0);
        }
        Check.same("its own folder's label", x.make(1, Check.MID, 3, Check.address(Check.MID, 15)), 1);
        Check.same("a folder that may not flow to the subject", x.make(1, Check.HIGH, 3, Check.address(Check.ASIDE, 0)), 2);
    }

    private static void makeAtItsOwn() {
        Check.sentence("at its own 1, or 0 if it is there already (nothing happens; looked at before -3);");
        TierHouse x = Check.peopled();
        Check.same("new", x.make(1, Check.MID, 0, Check.address(Check.LOW, 1)), 1);
        x.set(1, 0, 0, 5);
        x.make(0, Check.MID, 2, Check.address(Check.LOW, 1));
        x.give(0, Check.MID, 2, 6);
        Check.same("there already", x.make(1, Check.MID, 0, Check.address(Check.LOW, 2)), 0);
        Check.same("a gift, there already", x.make(1, Check.MID, 2, Check.address(Check.LOW, 2)), 0);
        x.quota(Check.MID, 2);
        Check.same("there already, and full", x.make(1, Check.MID, 0, -1), 0);
        Check.same("not there, and full", x.make(1, Check.MID, 1, -1), -3);
        x.quota(Check.MID, 1);
        Check.same("there already, and above the quota", x.make(1, Check.MID, 2, -1), 0);
        Check.told("nothing happens", x, Check.MID, 2, 0, 1, 2);
        Check.same("cells", x.size(1, Check.MID, 0), 1);
        Check.same("gifts", x.size(1, Check.MID, 2), 1);
        Check.same("folder", x.listed(1, Check.LOW, 1), 2);
        Check.same("no other folder", x.listed(1, Check.LOW, 2), 0);
        x.quota(Check.MID, 3);
        Check.same("not there, and room", x.make(1, Check.MID, 1, -1), 1);
    }

    private static void makeAboveCosts() {
        Check.sentence("at one above: it costs the subject's own label one, SPENT: 2 always (so GIVE);");
        TierHouse x = Check.peopled();
        x.quota(Check.MID, 0);
        x.quota(Check.LOW, 5);
        x.make(1, Check.HIGH, 0, -1);
        Check.same("not there", x.make(0, Check.MID, 0, -1), 2);
        Check.same("there", x.make(0, Check.MID, 0, -1), 2);
        Check.told("two spent", x, Check.LOW, 2, 2, 5, 0);
        Check.same("GIVE to a file", x.give(0, Check.MID, 0, 1), 2);
        Check.same("GIVE to none", x.give(0, Check.MID, 1, 1), 2);
        Check.told("four spent", x, Check.LOW, 4, 4, 5, 0);
        Check.same("the last", x.make(0, Check.HIGH, 1, -1), 2);
        Check.same("no room for one", x.make(0, Check.HIGH, 1, -1), -3);
        Check.told("five spent", x, Check.LOW, 5, 5, 5, 0);
        Check.told("none at the other", x, Check.MID, 0, 0, 0, 1);
    }

    private static void makeAboveWhatIsThereOrNot() {
        Check.sentence("if it is there already nothing else happens, otherwise it is there, without cells,"
            + " and is a gift itself (it costs its own label nothing).");
        TierHouse x = Check.peopled();
        x.make(1, Check.MID, 0, Check.address(Check.MID, 1));
        x.set(1, 0, 0, 5);
        x.make(0, Check.MID, 0, Check.address(Check.LOW, 1));
        Check.told("there: it stays its own", x, Check.MID, 2, 0, 40, 1);
        Check.same("there: its cells", x.size(1, Check.MID, 0), 1);
        Check.same("there: its folder", x.listed(1, Check.MID, 1) - x.listed(1, Check.LOW, 1), 1);
        x.make(0, Check.MID, 1, Check.address(Check.LOW, 1));
        Check.same("not there: it is", x.there(1, Check.MID, 1), 1);
        Check.same("not there: no cells", x.size(1, Check.MID, 1), 0);
        Check.told("not there: it costs nothing here", x, Check.MID, 2, 0, 40, 2);
        Check.same("not there: its folder", x.listed(1, Check.LOW, 1), 1);
        x.set(1, 1, 0, 6);
        x.remove(1, 1);
        x.make(0, Check.MID, 1, -1);
        Check.same("not any more: no cells", x.size(1, Check.MID, 1), 0);
        Check.told("not any more: it costs nothing here", x, Check.MID, 2, 0, 40, 2);
        Check.same("not any more: no folder", x.listed(1, Check.LOW, 1), 0);
    }

    private static void setInAnOldPlace() {
        Check.sentence("SET cell i of a file at its own label: the old value's place gets the new one: 1 (a gift stays one);");
        TierHouse x = Check.peopled();
        x.make(1, Check.MID, 0, -1);
        for (int i = 0; i < 24; i++) {
            if (i % 2 == 0) {
                x.give(0, Check.MID, 0, i);
            } else {
                x.set(1, 0, i, i);
            }
        }
        Check.told("half are gifts", x, Check.MID, 13, 0, 40, 1);
        for (int i = 0; i < 24; i++) {
            x.quota(Check.MID, i);
            Check.same("old place " + i, x.set(1, 0, i, 100 + i), 1);
        }
        Check.told("half are gifts still", x, Check.MID, 13, 0, 23, 1);
        Check.same("no more cells", x.size(1, Check.MID, 0), 24);
        for (int i = 0; i < 24; i++) {
            x.read(1, Check.MID, 0, i);
            Check.seen("new value " + i, x, 1, 100 + i);
        }
        for (int n = 23; n >= 0; n--) {
            x.trim(1, 0, n);
            Check.same("own cells of " + n, x.told(Check.MID, 0), 1 + n / 2);
        }
    }

    private static void setJustBehind() {
        Check.sentence("i just behind the last one: a cell more, 1, if there are less than 24;");
        TierHouse x = Check.peopled();
        x.make(1, Check.MID, 0, -1);
        for (int i = 0; i < 24; i++) {
            if (i < 23) {
                Check.same("one too far, " + i, x.set(1, 0, i + 1, 7), 0);
            }
            Check.same("just behind, " + i, x.set(1, 0, i, i), 1);
            Check.same("a cell more, " + i, x.size(1, Check.MID, 0), i + 1);
            Check.told("it costs one, " + i, x, Check.MID, i + 2, 0, 40, 1);
        }
        Check.illegal("behind 24", () -> x.set(1, 0, 24, 7));
        Check.same("24 stay", x.size(1, Check.MID, 0), 24);
        x.trim(1, 0, 23);
        Check.same("with 23 again", x.set(1, 0, 23, 7), 1);
        Check.same("24 again", x.size(1, Check.MID, 0), 24);
    }

    private static void setOtherwise() {
        Check.sentence("otherwise, and if there is no such file, 0.");
        TierHouse x = Check.peopled();
        for (int i = 0; i < 24; i++) {
            Check.same("no file, cell " + i, x.set(1, 0, i, 1), 0);
        }
        x.make(1, Check.MID, 0, -1);
        for (int i = 1; i < 24; i++) {
            Check.same("no cells, cell " + i, x.set(1, 0, i, 1), 0);
        }
        x.make(0, Check.LOW, 1, -1);
        x.make(2, Check.HIGH, 1, -1);
        Check.same("a file of that number below and above alone", x.set(1, 1, 0, 1), 0);
        Check.told("no cell came", x, Check.MID, 1, 0, 40, 1);
        Check.same("nor there", x.size(2, Check.LOW, 1) + x.size(2, Check.HIGH, 1), 0);
        x.quota(Check.MID, 0);
        Check.same("0 where there is no room either", x.set(1, 0, 1, 1), 0);
    }

    private static void giveOnlyAbove() {
        Check.sentence("GIVE a value to a file at a label above (-2 if that is not above):");
        TierHouse x = Check.peopled();
        for (int above : Check.JUST_ABOVE_MID) {
            x.make(1, above, 0, -1);
            Check.same("just above, " + above, x.give(1, above, 0, 1), 2);
            Check.same("given", x.size(2, above, 0), 1);
        }
        x.make(1, Check.MID, 0, -1);
        x.make(0, Check.MID - 1, 0, -1);
        x.make(0, Check.LOW, 0, -1);
        int used = x.told(Check.MID, 0);
        Check.same("its own", x.give(1, Check.MID, 0, 1), -2);
        for (int not : Check.NOT_ABOVE_MID) {
            Check.same("not above, " + not, x.give(1, not, 0, 1), -2);
        }
        Check.same("below", x.give(1, Check.LOW, 0, 1), -2);
        Check.same("nothing given", x.size(1, Check.MID, 0) + x.size(1, Check.MID - 1, 0) + x.size(1, Check.LOW, 0), 0);
        Check.same("nothing spent", x.told(Check.MID, 0), used);
    }

    private static void giveCosts() {
        Check.sentence("it costs one, SPENT: 2 always;");
        TierHouse x = Check.peopled();
        x.quota(Check.LOW, 28);
        x.quota(Check.MID, 0);
        Check.same("no file", x.give(0, Check.MID, 0, 1), 2);
        Check.told("no file", x, Check.LOW, 1, 1, 28, 0);
        x.make(0, Check.MID, 0, -1);
        for (int k = 1; k <= 26; k++) {
            Check.same("gift " + k, x.give(0, Check.MID, 0, k), 2);
            Check.told("gift " + k, x, Check.LOW, k + 2, k + 2, 28, 0);
        }
        Check.same("no room for one", x.give(0, Check.MID, 0, 1), -3);
        Check.told("it is not spent", x, Check.LOW, 28, 28, 28, 0);
    }

    private static void giveToLessThan24() {
        Check.sentence("if the file is there and has less than 24 cells, it has one more, a gift.");
        TierHouse x = Check.peopled();
        x.give(0, Check.MID, 0, 1);
        Check.same("not there, not made", x.there(1, Check.MID, 0), 0);
        x.make(1, Check.MID, 0, -1);
        Check.same("what came before it is gone", x.size(1, Check.MID, 0), 0);
        for (int i = 0; i < 23; i++) {
            x.set(1, 0, i, i);
        }
        x.give(0, Check.MID, 0, 50);
        Check.same("with 23: one more", x.size(1, Check.MID, 0), 24);
        x.read(1, Check.MID, 0, 23);
        Check.seen("the last", x, 1, 50);
        Check.told("a gift", x, Check.MID, 24, 0, 40, 1);
        x.give(0, Check.MID, 0, 60);
        Check.same("with 24: none more", x.size(1, Check.MID, 0), 24);
        for (int i = 0; i < 24; i++) {
            x.read(1, Check.MID, 0, i);
            Check.seen("the same cells", x, 1, i == 23 ? 50 : i);
        }
        Check.told("the same costs", x, Check.MID, 24, 0, 40, 1);
        x.trim(1, 0, 0);
        x.give(0, Check.MID, 0, 70);
        Check.same("with none: one more", x.size(1, Check.MID, 0), 1);
    }

    private static void trimTellsHowMany() {
        Check.sentence("TRIM a file at its own label to n cells: how many went;");
        for (int cells = 0; cells <= 24; cells++) {
            for (int n = 0; n <= cells; n++) {
                TierHouse x = withCells(cells);
                Check.same(cells + " cells to " + n, x.trim(1, 0, n), cells - n);
                Check.same("cells then", x.size(1, Check.MID, 0), n);
                Check.told("room then", x, Check.MID, n + 1, 0, 40, 1);
                Check.same("cell n is gone", n < 24 ? x.read(1, Check.MID, 0, n) : 0, 0);
                Check.same("the one before is not", n > 0 ? x.read(1, Check.MID, 0, n - 1) : 1, 1);
                Check.same("its value", x.seen(1, 0), n > 0 ? 99 + n : 0);
            }
        }
    }

    /** File 0 at MID has so many cells: 100, 101 .. */
    private static TierHouse withCells(int cells) {
        TierHouse x = Check.peopled();
        x.make(1, Check.MID, 0, -1);
        for (int i = 0; i < cells; i++) {
            x.set(1, 0, i, 100 + i);
        }
        return x;
    }

    private static void trimNotSoMany() {
        Check.sentence("0 if it has not so many or is not there.");
        for (int cells = 0; cells < 24; cells++) {
            for (int n : new int[] {cells + 1, 24}) {
                TierHouse x = withCells(cells);
                Check.same(cells + " cells to " + n, x.trim(1, 0, n), 0);
                Check.same("cells then", x.size(1, Check.MID, 0), cells);
                Check.told("room then", x, Check.MID, cells + 1, 0, 40, 1);
            }
        }
        TierHouse x = withCells(2);
        x.make(0, Check.LOW, 1, -1);
        x.set(0, 1, 0, 1);
        for (int n = 0; n <= 24; n++) {
            Check.same("another is not there", x.trim(1, 1, n), 0);
        }
        Check.same("what is below stays", x.size(1, Check.LOW, 1), 1);
    }

    private static void removeTellsWhetherThere() {
        Check.sentence("REMOVE a file at its own label: 1, or 0 if it is not there.");
        TierHouse x = withCells(24);
        x.make(0, Check.LOW, 0, -1);
        x.make(0, Check.HIGH, 0, -1);
        x.make(0, Check.MID, 15, -1);
        Check.same("not there", x.remove(1, 1), 0);
        Check.same("nor the one before the last", x.remove(1, 14), 0);
        Check.same("there", x.remove(1, 0), 1);
        Check.same("not any more", x.remove(1, 0), 0);
        Check.same("a gift", x.remove(1, 15), 1);
        Check.told("nothing left", x, Check.MID, 0, 0, 40, 0);
        Check.same("what is below stays", x.there(1, Check.LOW, 0), 1);
        Check.same("what is above stays", x.there(2, Check.HIGH, 0), 1);
        x.make(1, Check.MID, 0, -1);
        Check.same("none of its cells is left", x.size(1, Check.MID, 0), 0);
        Check.same("without cells", x.remove(1, 0), 1);
    }
}
