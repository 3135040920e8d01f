final class Promise11ReadTest {
    public static void main(String[] args) {
        cellIsThereOrNot();
        mayNot();
        wrongInputs();
        Check.close("promise 11");
    }

    private static void cellIsThereOrNot() {
        TierHouse x = Check.peopled();
        Check.same("no label", x.read(9, Check.LOW, 0, 0), -1);
        Check.same("no file", x.read(1, Check.LOW, 0, 0), 0);
        x.make(0, Check.LOW, 0, -1);
        Check.same("no cell", x.read(1, Check.LOW, 0, 0), 0);
        x.set(0, 0, 0, 40);
        x.set(0, 0, 1, Integer.MIN_VALUE);
        Check.same("cell 0", x.read(1, Check.LOW, 0, 0), 1);
        Check.seen("its value", x, 1, 40);
        Check.seen("by that subject only", x, 0);
        Check.same("cell 1", x.read(2, Check.LOW, 0, 1), 1);
        Check.seen("its value", x, 2, Integer.MIN_VALUE);
        Check.seen("another's stays", x, 1, 40);
        x.set(0, 0, 0, 41);
        Check.seen("as it was when it was read", x, 1, 40);
        Check.same("cell 2", x.read(1, Check.LOW, 0, 2), 0);
        Check.seen("nothing then", x, 1);
        Check.same("last cell", x.read(1, Check.LOW, 0, 23), 0);
        Check.same("its own label", x.read(0, Check.LOW, 0, 0), 1);
        Check.seen("its value", x, 0, 41);
        Check.told("costs nothing", x, Check.LOW, 3, 0, 40, 1);
    }

    private static void mayNot() {
        TierHouse x = Check.peopled();
        x.make(1, Check.MID, 0, -1);
        x.set(1, 0, 0, 5);
        Check.same("up", x.read(0, Check.MID, 0, 0), -2);
        Check.same("aside", x.read(3, Check.MID, 0, 0), -2);
        Check.same("up, not there", x.read(0, Check.MID, 1, 0), -2);
        Check.seen("nothing", x, 0);
        x.read(1, Check.MID, 0, 0);
        Check.same("one that may, up", x.read(1, Check.HIGH, 0, 0), -2);
        Check.seen("nothing any more", x, 1);
    }

    private static void wrongInputs() {
        TierHouse x = Check.peopled();
        x.make(0, Check.LOW, 0, -1);
        x.set(0, 0, 0, 5);
        x.read(0, Check.LOW, 0, 0);
        Check.illegal("subject -1", () -> x.read(-1, Check.LOW, 0, 0));
        Check.illegal("subject 16", () -> x.read(16, Check.LOW, 0, 0));
        Check.illegal("label -1", () -> x.read(0, -1, 0, 0));
        Check.illegal("label 1024", () -> x.read(0, 1024, 0, 0));
        Check.illegal("number -1", () -> x.read(0, Check.LOW, -1, 0));
        Check.illegal("number 16", () -> x.read(0, Check.LOW, 16, 0));
        Check.illegal("cell -1", () -> x.read(0, Check.LOW, 0, -1));
        Check.illegal("cell 24", () -> x.read(0, Check.LOW, 0, 24));
        Check.illegal("no label yet, cell 24", () -> x.read(9, Check.LOW, 0, 24));
        Check.illegal("may not, cell 24", () -> x.read(0, Check.HIGH, 0, 24));
        Check.seen("what was seen stays", x, 0, 5);
    }
}
