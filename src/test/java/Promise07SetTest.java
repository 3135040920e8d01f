final class Promise07SetTest {
    public static void main(String[] args) {
        oldAndNewCells();
        fullFile();
        giftsStayGifts();
        quotaIsKept();
        wrongInputs();
        Check.close("promise 7");
    }

    private static void oldAndNewCells() {
        TierHouse x = Check.peopled();
        Check.same("no label", x.set(9, 0, 0, 1), -1);
        Check.same("no file", x.set(1, 0, 0, 1), 0);
        x.make(1, Check.MID, 0, -1);
        Check.same("not just behind", x.set(1, 0, 1, 1), 0);
        Check.same("just behind", x.set(1, 0, 0, Integer.MIN_VALUE), 1);
        Check.same("just behind that", x.set(1, 0, 1, 11), 1);
        Check.same("far behind", x.set(1, 0, 3, 1), 0);
        Check.same("old place", x.set(1, 0, 0, Integer.MAX_VALUE), 1);
        Check.told("costs", x, Check.MID, 3, 0, 40, 1);
        x.read(1, Check.MID, 0, 0);
        Check.seen("new value", x, 1, Integer.MAX_VALUE);
        x.read(1, Check.MID, 0, 1);
        Check.seen("other value", x, 1, 11);
        Check.same("size", x.size(1, Check.MID, 0), 2);
        x.make(0, Check.LOW, 0, -1);
        Check.same("another label's file of that number is another", x.size(0, Check.LOW, 0), 0);
        Check.same("no file at its own", x.set(2, 0, 0, 1), 0);
    }

    private static void fullFile() {
        TierHouse x = Check.peopled();
        x.make(1, Check.MID, 0, -1);
        for (int i = 0; i < 24; i++) {
            Check.same("cell " + i, x.set(1, 0, i, 100 + i), 1);
        }
        Check.same("24", x.size(1, Check.MID, 0), 24);
        Check.told("25", x, Check.MID, 25, 0, 40, 1);
        Check.same("last place", x.set(1, 0, 23, 5), 1);
        Check.illegal("behind it", () -> x.set(1, 0, 24, 5));
        x.read(1, Check.MID, 0, 23);
        Check.seen("last place", x, 1, 5);
        x.read(1, Check.MID, 0, 22);
        Check.seen("one before", x, 1, 122);
    }

    private static void giftsStayGifts() {
        TierHouse x = Check.peopled();
        x.make(0, Check.MID, 0, -1);
        x.give(0, Check.MID, 0, 4);
        Check.told("all gifts", x, Check.MID, 0, 0, 40, 1);
        Check.same("a gift's place", x.set(1, 0, 0, 6), 1);
        Check.told("it stays one", x, Check.MID, 0, 0, 40, 1);
        Check.same("a cell of its own", x.set(1, 0, 1, 7), 1);
        Check.told("it costs", x, Check.MID, 1, 0, 40, 1);
        x.give(0, Check.MID, 0, 8);
        Check.same("between gifts", x.set(1, 0, 1, 9), 1);
        Check.told("it stays its own", x, Check.MID, 1, 0, 40, 1);
        x.read(1, Check.MID, 0, 0);
        Check.seen("gift's new value", x, 1, 6);
    }

    private static void quotaIsKept() {
        TierHouse x = Check.peopled();
        x.make(1, Check.MID, 0, -1);
        x.quota(Check.MID, 2);
        Check.same("up to the quota", x.set(1, 0, 0, 1), 1);
        Check.same("above it", x.set(1, 0, 1, 1), -3);
        Check.same("old place", x.set(1, 0, 0, 2), 1);
        Check.same("0, not -3, too far behind", x.set(1, 0, 2, 1), 0);
        Check.same("0, not -3, no file", x.set(1, 5, 0, 1), 0);
        Check.same("nothing more", x.size(1, Check.MID, 0), 1);
        x.quota(Check.MID, 3);
        x.make(1, Check.HIGH, 0, -1);
        Check.same("spent counts", x.set(1, 0, 1, 1), -3);
    }

    private static void wrongInputs() {
        TierHouse x = Check.peopled();
        x.make(0, Check.LOW, 0, -1);
        Check.illegal("subject -1", () -> x.set(-1, 0, 0, 1));
        Check.illegal("subject 16", () -> x.set(16, 0, 0, 1));
        Check.illegal("number -1", () -> x.set(0, -1, 0, 1));
        Check.illegal("number 16", () -> x.set(0, 16, 0, 1));
        Check.illegal("cell -1", () -> x.set(0, 0, -1, 1));
        Check.illegal("cell 24", () -> x.set(0, 0, 24, 1));
        Check.illegal("no label yet, cell 24", () -> x.set(9, 0, 24, 1));
        Check.same("nothing changed", x.size(0, Check.LOW, 0), 0);
    }
}
