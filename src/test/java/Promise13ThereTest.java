final class Promise13ThereTest {
    public static void main(String[] args) {
        TierHouse x = Check.peopled();
        Check.same("no label", x.there(9, Check.LOW, 0), -1);
        Check.same("no file", x.there(1, Check.LOW, 0), 0);
        x.make(1, Check.MID, 15, -1);
        Check.same("own", x.there(1, Check.MID, 15), 1);
        Check.same("another number", x.there(1, Check.MID, 14), 0);
        Check.same("that number elsewhere", x.there(1, Check.LOW, 15), 0);
        Check.same("from above", x.there(2, Check.MID, 15), 1);
        Check.same("up", x.there(0, Check.MID, 15), -2);
        Check.same("up, not there", x.there(0, Check.MID, 14), -2);
        Check.same("aside", x.there(3, Check.MID, 15), -2);
        x.make(0, Check.MID, 3, -1);
        Check.same("a gift", x.there(1, Check.MID, 3), 1);
        x.set(1, 15, 0, 8);
        x.read(1, Check.MID, 15, 0);
        x.there(1, Check.MID, 15);
        Check.seen("a request forgets what was seen", x, 1);
        Check.illegal("subject -1", () -> x.there(-1, Check.LOW, 0));
        Check.illegal("subject 16", () -> x.there(16, Check.LOW, 0));
        Check.illegal("label -1", () -> x.there(0, -1, 0));
        Check.illegal("label 1024", () -> x.there(0, 1024, 0));
        Check.illegal("number -1", () -> x.there(0, Check.LOW, -1));
        Check.illegal("number 16", () -> x.there(0, Check.LOW, 16));
        Check.illegal("may not, number 16", () -> x.there(0, Check.HIGH, 16));
        Check.close("promise 13");
    }
}
