final class Promise15ReleaseTest {
    public static void main(String[] args) {
        comesDown();
        onlyWhatIsListed();
        overAnotherFile();
        folders();
        quotaOfTheOther();
        houseIsFull();
        wrongInputs();
        Check.close("promise 15");
    }

    /** Subject 1 may release from MID to LOW; file 5 is there at MID with an own cell 50 and a gift 51. */
    private static TierHouse releasing() {
        TierHouse x = Check.peopled();
        x.list(1, Check.MID, Check.LOW, true);
        x.make(1, Check.MID, 5, Check.address(Check.MID, 9));
        x.set(1, 5, 0, 50);
        x.give(0, Check.MID, 5, 51);
        return x;
    }

    private static void comesDown() {
        TierHouse x = releasing();
        Check.same("not there", x.release(1, Check.MID, 6, Check.LOW), 0);
        Check.told("nothing made", x, Check.LOW, 1, 1, 40, 0);
        Check.same("released", x.release(1, Check.MID, 5, Check.LOW), 1);
        Check.told("no gift, the other label pays", x, Check.LOW, 4, 1, 40, 1);
        Check.told("the file itself stays", x, Check.MID, 2, 0, 40, 1);
        x.read(0, Check.LOW, 5, 0);
        Check.seen("first cell", x, 0, 50);
        x.read(0, Check.LOW, 5, 1);
        Check.seen("second cell", x, 0, 51);
        Check.same("no third", x.size(0, Check.LOW, 5), 2);
        x.set(1, 5, 0, 99);
        x.read(0, Check.LOW, 5, 0);
        Check.seen("a copy of its own", x, 0, 50);
        x.set(0, 5, 1, 77);
        x.read(1, Check.MID, 5, 1);
        Check.seen("both ways", x, 1, 51);
    }

    private static void onlyWhatIsListed() {
        TierHouse x = releasing();
        Check.same("no label", x.release(9, Check.MID, 5, Check.LOW), -1);
        x.list(9, Check.MID, Check.LOW, true);
        Check.same("listed, but no label", x.release(9, Check.MID, 5, Check.LOW), -1);
        Check.same("another subject", x.release(2, Check.MID, 5, Check.LOW), -2);
        Check.same("another label", x.release(1, Check.HIGH, 5, Check.LOW), -2);
        Check.same("another other label", x.release(1, Check.MID, 5, Check.ASIDE), -2);
        Check.same("the other way", x.release(1, Check.LOW, 5, Check.MID), -2);
        Check.same("one label", x.release(1, Check.MID, 5, Check.MID), -2);
        Check.same("-2 before 0", x.release(2, Check.MID, 6, Check.LOW), -2);
        x.list(0, Check.MID, Check.ASIDE, true);
        Check.same("what is listed, whatever flows", x.release(0, Check.MID, 5, Check.ASIDE), 1);
        x.list(1, Check.MID, Check.LOW, false);
        Check.same("no more", x.release(1, Check.MID, 5, Check.LOW), -2);
        Check.same("nothing came down", x.told(Check.LOW, 3), 0);
    }

    private static void overAnotherFile() {
        TierHouse x = releasing();
        x.make(0, Check.LOW, 5, -1);
        for (int i = 0; i < 4; i++) {
            x.set(0, 5, i, i);
        }
        Check.told("before", x, Check.LOW, 6, 1, 40, 1);
        Check.same("over it", x.release(1, Check.MID, 5, Check.LOW), 1);
        Check.told("the old cells are free", x, Check.LOW, 4, 1, 40, 1);
        Check.same("the same cells", x.size(0, Check.LOW, 5), 2);
        TierHouse y = releasing();
        y.list(1, Check.MID, Check.HIGH, true);
        y.make(0, Check.HIGH, 5, -1);
        y.give(0, Check.HIGH, 5, 1);
        y.give(0, Check.HIGH, 5, 2);
        y.give(0, Check.HIGH, 5, 3);
        Check.told("a gift of gifts", y, Check.HIGH, 0, 0, 40, 1);
        Check.same("over it", y.release(1, Check.MID, 5, Check.HIGH), 1);
        Check.told("no gift any more", y, Check.HIGH, 3, 0, 40, 1);
        y.trim(1, 5, 0);
        Check.same("without cells", y.release(1, Check.MID, 5, Check.HIGH), 1);
        Check.told("the file alone", y, Check.HIGH, 1, 0, 40, 1);
    }

    private static void folders() {
        TierHouse x = releasing();
        x.release(1, Check.MID, 5, Check.LOW);
        Check.same("new: not the other's folder", x.listed(0, Check.LOW, 9) + x.listed(1, Check.MID, 9), 1);
        TierHouse y = releasing();
        y.make(0, Check.LOW, 5, Check.address(Check.LOW, 3));
        y.release(1, Check.MID, 5, Check.LOW);
        Check.same("there: its folder as before", y.listed(0, Check.LOW, 3), 1);
        y.listed(1, Check.MID, 9);
        Check.seen("the other keeps its own", y, 1, Check.address(Check.MID, 5));
    }

    private static void quotaOfTheOther() {
        TierHouse x = releasing();
        x.quota(Check.MID, 0);
        x.quota(Check.LOW, 3);
        Check.same("1 spent and 3 are more than 3", x.release(1, Check.MID, 5, Check.LOW), -3);
        Check.same("nothing made", x.told(Check.LOW, 3), 0);
        Check.same("0 before -3", x.release(1, Check.MID, 6, Check.LOW), 0);
        x.quota(Check.LOW, 4);
        Check.same("up to the quota", x.release(1, Check.MID, 5, Check.LOW), 1);
        Check.same("again, in its place", x.release(1, Check.MID, 5, Check.LOW), 1);
        x.set(0, 5, 0, 8);
        x.quota(Check.LOW, 3);
        Check.same("as much as it uses, but more than the quota", x.release(1, Check.MID, 5, Check.LOW), -3);
        x.read(0, Check.LOW, 5, 0);
        Check.seen("nothing changed", x, 0, 8);
        x.trim(1, 5, 1);
        Check.same("less than it uses", x.release(1, Check.MID, 5, Check.LOW), 1);
        Check.told("at the quota", x, Check.LOW, 3, 1, 3, 1);
    }

    private static void houseIsFull() {
        TierHouse x = Check.full();
        int from = Check.fillLabel(0);
        x.list(1, from, Check.LOW, true);
        x.list(1, from, Check.fillLabel(16), true);
        x.list(1, from, Check.MID, true);
        Check.unsupported("one more", () -> x.release(1, from, 0, Check.LOW));
        Check.told("nothing changed", x, Check.LOW, 200, 200, 1000, 0);
        Check.same("over another", x.release(1, from, 0, Check.fillLabel(16)), 1);
        Check.same("not there", x.release(1, Check.MID, 0, Check.LOW), -2);
        x.quota(Check.MID, 0);
        Check.same("no room comes first", x.release(1, from, 0, Check.MID), -3);
        x.subject(7, from);
        x.remove(7, 1);
        Check.same("not there comes first", x.release(1, from, 1, Check.LOW), 0);
        Check.same("one less, so one more", x.release(1, from, 0, Check.LOW), 1);
        Check.unsupported("and no other", () -> x.release(1, from, 2, Check.LOW));
    }

    private static void wrongInputs() {
        TierHouse x = releasing();
        Check.illegal("subject -1", () -> x.release(-1, Check.MID, 5, Check.LOW));
        Check.illegal("subject 16", () -> x.release(16, Check.MID, 5, Check.LOW));
        Check.illegal("label -1", () -> x.release(1, -1, 5, Check.LOW));
        Check.illegal("label 1024", () -> x.release(1, 1024, 5, Check.LOW));
        Check.illegal("number -1", () -> x.release(1, Check.MID, -1, Check.LOW));
        Check.illegal("number 16", () -> x.release(1, Check.MID, 16, Check.LOW));
        Check.illegal("to -1", () -> x.release(1, Check.MID, 5, -1));
        Check.illegal("to 1024", () -> x.release(1, Check.MID, 5, 1024));
        Check.illegal("no label yet, to 1024", () -> x.release(9, Check.MID, 5, 1024));
        Check.same("nothing came down", x.told(Check.LOW, 3), 0);
    }
}
