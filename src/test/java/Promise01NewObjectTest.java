final class Promise01NewObjectTest {
    public static void main(String[] args) {
        nothingIsThere();
        nothingIsListed();
        objectsShareNothing();
        Check.close("promise 1");
    }

    private static void nothingIsThere() {
        TierHouse x = new TierHouse();
        Check.same("NONE", TierHouse.NONE, -1);
        for (int subject = 0; subject < 16; subject++) {
            Check.same("no label yet", x.there(subject, 0, 0), -1);
            Check.seen("nothing seen", x, subject);
        }
        for (int label : new int[] {0, 1, Check.LOW, Check.MID, Check.HIGH, 1023}) {
            Check.told("label " + label, x, label, 0, 0, 40, 0);
        }
    }

    private static void nothingIsListed() {
        TierHouse x = Check.peopled();
        Check.same("not listed", x.list(0, Check.HIGH, Check.LOW, false), false);
        Check.same("subject 0, label 0 to 1", x.list(0, 0, 1, false), false);
        Check.same("release unlisted", x.release(0, Check.HIGH, 0, Check.LOW), -2);
        Check.same("release of 0 unlisted", x.release(0, 0, 0, 0), -2);
    }

    private static void objectsShareNothing() {
        TierHouse x = Check.peopled();
        x.make(0, Check.LOW, 0, -1);
        x.set(0, 0, 0, 5);
        x.quota(Check.LOW, 9);
        x.list(0, Check.HIGH, Check.LOW, true);
        TierHouse y = new TierHouse();
        Check.told("another object", y, Check.LOW, 0, 0, 40, 0);
        Check.same("its subjects", y.subject(0, Check.LOW), true);
        Check.same("its files", y.there(0, Check.LOW, 0), 0);
        Check.same("its listings", y.list(0, Check.HIGH, Check.LOW, false), false);
    }
}
