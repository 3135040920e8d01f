final class Promise12SizeTest {
    public static void main(String[] args) {
        TierHouse x = Check.peopled();
        Check.same("no label", x.size(9, Check.LOW, 0), -1);
        Check.same("no file", x.size(1, Check.LOW, 0), 0);
        x.make(1, Check.MID, 0, -1);
        Check.same("no cells", x.size(1, Check.MID, 0), 0);
        x.set(1, 0, 0, 0);
        x.give(0, Check.MID, 0, 9);
        Check.same("own cells and gifts", x.size(1, Check.MID, 0), 2);
        Check.same("from above", x.size(2, Check.MID, 0), 2);
        Check.same("up", x.size(0, Check.MID, 0), -2);
        Check.same("up, not there", x.size(0, Check.MID, 1), -2);
        Check.same("aside", x.size(3, Check.MID, 0), -2);
        x.read(1, Check.MID, 0, 1);
        x.size(1, Check.MID, 0);
        Check.seen("a request forgets what was seen", x, 1);
        Check.illegal("subject -1", () -> x.size(-1, Check.LOW, 0));
        Check.illegal("subject 16", () -> x.size(16, Check.LOW, 0));
        Check.illegal("label -1", () -> x.size(0, -1, 0));
        Check.illegal("label 1024", () -> x.size(0, 1024, 0));
        Check.illegal("number -1", () -> x.size(0, Check.LOW, -1));
        Check.illegal("number 16", () -> x.size(0, Check.LOW, 16));
        Check.illegal("may not, number 16", () -> x.size(0, Check.HIGH, 16));
        Check.close("promise 12");
    }
}
