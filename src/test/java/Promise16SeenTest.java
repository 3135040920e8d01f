final class Promise16SeenTest {
    public static void main(String[] args) {
        onlyWhatIsSeen();
        everyRequestForgets();
        otherCallsDoNot();
        throwsLeaveIt();
        wrongInputs();
        Check.close("promise 16");
    }

    /** Subject 1 has read 70, its file 0 has it. */
    private static TierHouse reading() {
        TierHouse x = Check.peopled();
        x.make(1, Check.MID, 0, Check.address(Check.MID, 0));
        x.set(1, 0, 0, 70);
        x.read(1, Check.MID, 0, 0);
        return x;
    }

    private static void onlyWhatIsSeen() {
        TierHouse x = reading();
        Check.same("value 0", x.seen(1, 0), 70);
        Check.same("again", x.seen(1, 0), 70);
        Check.same("value 1", x.seen(1, 1), 0);
        Check.same("value -1", x.seen(1, -1), 0);
        Check.same("value 200", x.seen(1, 200), 0);
        Check.same("the most", x.seen(1, Integer.MAX_VALUE), 0);
        Check.same("the least", x.seen(1, Integer.MIN_VALUE), 0);
        Check.same("another subject", x.seen(0, 0), 0);
        Check.same("one without a label", x.seen(15, 0), 0);
        x.listed(1, Check.MID, 0);
        Check.seen("a list in its place", x, 1, Check.address(Check.MID, 0));
        x.make(1, Check.MID, 1, Check.address(Check.MID, 0));
        x.listed(1, Check.MID, 0);
        Check.seen("two", x, 1, Check.address(Check.MID, 0), Check.address(Check.MID, 1));
        x.read(1, Check.MID, 0, 0);
        Check.seen("of a read only 0", x, 1, 70);
    }

    private static void everyRequestForgets() {
        for (int request = 0; request < 19; request++) {
            TierHouse x = reading();
            ask(x, request);
            Check.seen("request " + request, x, 1);
        }
    }

    private static void ask(TierHouse x, int request) {
        switch (request) {
            case 0: x.make(1, Check.MID, 1, -1); break;
            case 1: x.make(1, Check.MID, 0, -1); break;
            case 2: x.make(1, Check.LOW, 0, -1); break;
            case 3: x.make(1, Check.HIGH, 0, -1); break;
            case 4: x.set(1, 0, 0, 1); break;
            case 5: x.set(1, 9, 0, 1); break;
            case 6: x.give(1, Check.HIGH, 0, 1); break;
            case 7: x.give(1, Check.LOW, 0, 1); break;
            case 8: x.trim(1, 0, 0); break;
            case 9: x.remove(1, 0); break;
            case 10: x.read(1, Check.MID, 0, 1); break;
            case 11: x.read(1, Check.HIGH, 0, 0); break;
            case 12: x.size(1, Check.MID, 0); break;
            case 13: x.there(1, Check.HIGH, 0); break;
            case 14: x.listed(1, Check.MID, 9); break;
            case 15: x.listed(1, Check.HIGH, 9); break;
            case 16: x.release(1, Check.MID, 0, Check.LOW); break;
            case 17: x.quota(Check.MID, 0); x.make(1, Check.MID, 7, -1); break;
            default: x.list(1, Check.MID, Check.LOW, true); x.release(1, Check.MID, 0, Check.LOW); break;
        }
    }

    private static void otherCallsDoNot() {
        TierHouse x = reading();
        x.subject(1, Check.LOW);
        x.quota(Check.MID, 50);
        x.list(1, Check.MID, Check.LOW, true);
        x.flows(Check.MID, Check.LOW);
        x.told(Check.MID, 0);
        x.seen(1, 5);
        x.make(0, Check.LOW, 0, -1);
        x.give(0, Check.MID, 0, 4);
        x.read(2, Check.MID, 0, 1);
        x.listed(3, Check.LOW, 0);
        Check.seen("still", x, 1, 70);
    }

    private static void throwsLeaveIt() {
        TierHouse x = Check.full();
        int from = Check.fillLabel(0);
        x.list(2, from, Check.LOW, true);
        x.subject(7, from);
        x.set(7, 0, 0, 71);
        x.read(2, from, 0, 0);
        Check.unsupported("make", () -> x.make(2, Check.HIGH, 0, -1));
        Check.unsupported("release", () -> x.release(2, from, 0, Check.LOW));
        Check.illegal("make", () -> x.make(2, Check.HIGH, 0, -2));
        Check.illegal("set", () -> x.set(2, 0, 24, 0));
        Check.illegal("give", () -> x.give(2, Check.HIGH, 16, 0));
        Check.illegal("trim", () -> x.trim(2, 0, 25));
        Check.illegal("remove", () -> x.remove(2, 16));
        Check.illegal("read", () -> x.read(2, from, 0, 24));
        Check.illegal("size", () -> x.size(2, 1024, 0));
        Check.illegal("there", () -> x.there(2, 1024, 0));
        Check.illegal("listed", () -> x.listed(2, 1024, 0));
        Check.illegal("release", () -> x.release(2, from, 0, 1024));
        Check.seen("still", x, 2, 71);
    }

    private static void wrongInputs() {
        TierHouse x = new TierHouse();
        Check.illegal("subject -1", () -> x.seen(-1, 0));
        Check.illegal("subject 16", () -> x.seen(16, 0));
        Check.illegal("subject 16, value -1", () -> x.seen(16, -1));
    }
}
