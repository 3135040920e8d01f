final class Promise10RemoveTest {
    public static void main(String[] args) {
        goneWithItsCells();
        wrongInputs();
        Check.close("promise 10");
    }

    private static void goneWithItsCells() {
        TierHouse x = Check.peopled();
        Check.same("no label", x.remove(9, 0), -1);
        Check.same("no file", x.remove(1, 0), 0);
        x.make(1, Check.MID, 0, Check.address(Check.MID, 9));
        x.make(1, Check.MID, 1, Check.address(Check.MID, 9));
        x.make(0, Check.MID, 2, Check.address(Check.LOW, 9));
        x.make(0, Check.LOW, 0, -1);
        x.set(1, 0, 0, 1);
        x.set(1, 1, 0, 2);
        Check.same("there", x.remove(1, 0), 1);
        Check.told("room comes back", x, Check.MID, 2, 0, 40, 2);
        Check.same("gone", x.there(1, Check.MID, 0), 0);
        Check.same("another of that number stays", x.there(0, Check.LOW, 0), 1);
        Check.same("another there stays", x.there(1, Check.MID, 1), 1);
        x.listed(1, Check.MID, 9);
        Check.seen("in no folder", x, 1, Check.address(Check.MID, 1));
        Check.same("again", x.remove(1, 0), 0);
        Check.same("a gift", x.remove(1, 2), 1);
        Check.told("gives nothing back", x, Check.MID, 2, 0, 40, 1);
        Check.told("nor to the giver", x, Check.LOW, 2, 1, 40, 1);
        x.make(1, Check.MID, 0, -1);
        Check.same("new without cells", x.size(1, Check.MID, 0), 0);
        Check.same("new without folder", x.listed(1, Check.MID, 9), 1);
        x.quota(Check.MID, 0);
        Check.same("above the quota too", x.remove(1, 1), 1);
    }

    private static void wrongInputs() {
        TierHouse x = Check.peopled();
        x.make(0, Check.LOW, 0, -1);
        Check.illegal("subject -1", () -> x.remove(-1, 0));
        Check.illegal("subject 16", () -> x.remove(16, 0));
        Check.illegal("number -1", () -> x.remove(0, -1));
        Check.illegal("number 16", () -> x.remove(0, 16));
        Check.same("nothing changed", x.there(0, Check.LOW, 0), 1);
    }
}
