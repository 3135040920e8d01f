final class Promise04ListTest {
    public static void main(String[] args) {
        listedOrNoMore();
        eachPartCounts();
        atMost32();
        listingIsNoRequest();
        wrongInputs();
        Check.close("promise 4");
    }

    private static void listedOrNoMore() {
        TierHouse x = new TierHouse();
        Check.same("was not", x.list(1, 2, 3, true), false);
        Check.same("was, stays", x.list(1, 2, 3, true), true);
        Check.same("was, no more", x.list(1, 2, 3, false), true);
        Check.same("was not, stays so", x.list(1, 2, 3, false), false);
        Check.same("listed twice is listed once", x.list(1, 2, 3, true), false);
    }

    private static void eachPartCounts() {
        TierHouse x = new TierHouse();
        x.list(1, 2, 3, true);
        Check.same("another subject", x.list(2, 2, 3, false), false);
        Check.same("another label", x.list(1, 4, 3, false), false);
        Check.same("another other label", x.list(1, 2, 4, false), false);
        Check.same("the other way", x.list(1, 3, 2, false), false);
        Check.same("the last ones", x.list(15, 1023, 1022, true), false);
        Check.same("the first ones", x.list(0, 0, 1, true), false);
        Check.same("still", x.list(1, 2, 3, true), true);
        Check.same("still the last", x.list(15, 1023, 1022, true), true);
    }

    private static void atMost32() {
        TierHouse x = new TierHouse();
        for (int k = 0; k < 32; k++) {
            Check.same("listing " + k, x.list(k % 16, k, k + 1, true), false);
        }
        Check.unsupported("the 33rd", () -> x.list(0, 500, 501, true));
        Check.same("it is not listed", x.list(0, 500, 501, false), false);
        Check.same("one of the 32 again", x.list(5, 5, 6, true), true);
        Check.same("one less", x.list(5, 5, 6, false), true);
        Check.same("so another may be", x.list(0, 500, 501, true), false);
        Check.unsupported("but one only", () -> x.list(5, 5, 6, true));
        for (int k = 0; k < 32; k++) {
            Check.same("others stay, " + k, x.list(k % 16, k, k + 1, false), k != 5);
        }
    }

    private static void listingIsNoRequest() {
        TierHouse x = Check.peopled();
        x.make(0, Check.LOW, 0, -1);
        x.set(0, 0, 0, 77);
        x.read(0, Check.LOW, 0, 0);
        x.list(0, Check.HIGH, Check.LOW, true);
        Check.seen("listing leaves what was seen", x, 0, 77);
    }

    private static void wrongInputs() {
        TierHouse x = new TierHouse();
        Check.illegal("subject -1", () -> x.list(-1, 0, 1, true));
        Check.illegal("subject 16", () -> x.list(16, 0, 1, true));
        Check.illegal("from -1", () -> x.list(0, -1, 1, true));
        Check.illegal("from 1024", () -> x.list(0, 1024, 1, true));
        Check.illegal("to -1", () -> x.list(0, 0, -1, true));
        Check.illegal("to 1024", () -> x.list(0, 0, 1024, true));
        Check.illegal("one label", () -> x.list(0, 5, 5, true));
        Check.illegal("one label, no more", () -> x.list(0, 5, 5, false));
        for (int k = 0; k < 32; k++) {
            x.list(k % 16, k, k + 1, true);
        }
        Check.illegal("one label at 32", () -> x.list(0, 5, 5, true));
    }
}
