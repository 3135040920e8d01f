/** The document's sentences on the order in which a request is answered, and on calls that throw. */
final class BoundsOfOrderTest {
    /** As many as illegal() makes. */
    private static final int ILLEGAL_CALLS = 29;

    public static void main(String[] args) {
        Check.each(
            BoundsOfOrderTest::noLabelFirst,
            BoundsOfOrderTest::mayNotThen,
            BoundsOfOrderTest::byLabelsAlone,
            BoundsOfOrderTest::thenAsToldThere,
            BoundsOfOrderTest::giftsComeFromOthers,
            BoundsOfOrderTest::illegalChangesNothing,
            BoundsOfOrderTest::unsupportedChangesNothing,
            BoundsOfOrderTest::theLastOfTheCalls,
            BoundsOfOrderTest::thereAndGoneToTheLast);
        Check.close("bounds of order");
    }

    /** Subject 9 has no label; its requests may not, have no file and no room, and the house is full. */
    private static void noLabelFirst() {
        Check.sentence("A REQUEST of a subject is answered, in this order: -1 the subject has no label;");
        for (Request request : Request.values()) {
            TierHouse x = Check.full();
            x.quota(0, 0);
            for (int label : new int[] {0, 1, Check.LOW, Check.HIGH, 1023}) {
                Check.same(request + " at " + label, request.ask(x, 9, label, 0, 0), -1);
            }
            Check.same(request + ", folder or other label", request.ask(x, 9, 0, 15, 23), -1);
            x.list(9, Check.fillLabel(0), Check.LOW, true);
            Check.same("listed", x.release(9, Check.fillLabel(0), 0, Check.LOW), -1);
            x.subject(9, 0);
            Check.same(request + " with a label", request.ask(x, 9, 0, 0, 0) == -1, false);
        }
    }

    private static void mayNotThen() {
        Check.sentence("-2 what it may not: told with each request,");
        TierHouse x = Check.full();
        int there = Check.fillLabel(0);
        x.subject(7, there);
        x.quota(there, 0);
        Check.same("MAKE before 0", x.make(7, there, 0, Check.address(Check.HIGH, 0)), -2);
        Check.same("MAKE before -3 and a full house", x.make(7, Check.LOW, 0, -1), -2);
        Check.same("GIVE before -3", x.give(7, there, 0, 1), -2);
        x.quota(Check.MID, 0);
        Check.same("RELEASE before 0", x.release(7, Check.HIGH, 0, Check.MID), -2);
        Check.same("RELEASE before -3 and a full house", x.release(7, there, 0, Check.MID), -2);
        Check.same("READ before 0", x.read(0, Check.MID, 0, 0), -2);
        Check.same("SIZE before 0", x.size(0, Check.MID, 0), -2);
        Check.same("THERE before 0", x.there(0, Check.MID, 0), -2);
        Check.same("LIST before 0", x.listed(0, Check.MID, 0), -2);
    }

    /** Whether there is such a file, cell or room changes nothing of -2. */
    private static void byLabelsAlone() {
        Check.sentence("by labels alone;");
        TierHouse x = Check.peopled();
        for (int round = 0; round < 4; round++) {
            Check.same("MAKE below", x.make(1, Check.LOW, 0, -1), -2);
            Check.same("MAKE in a folder above", x.make(1, Check.MID, 0, Check.address(Check.HIGH, 0)), -2);
            Check.same("GIVE below", x.give(1, Check.LOW, 0, 1), -2);
            Check.same("GIVE at its own", x.give(1, Check.MID, 0, 1), -2);
            Check.same("READ above", x.read(1, Check.HIGH, 0, 0), -2);
            Check.same("SIZE above", x.size(1, Check.HIGH, 0), -2);
            Check.same("THERE above", x.there(1, Check.HIGH, 0), -2);
            Check.same("LIST above", x.listed(1, Check.HIGH, 0), -2);
            Check.same("RELEASE unlisted", x.release(1, Check.MID, 0, Check.LOW), -2);
            Check.seen("nothing", x, 1);
            if (round < 3) {
                x.make(round, Check.ownLabel(round), 0, -1);
                x.set(round, 0, 0, 5);
            }
        }
    }

    private static void thenAsToldThere() {
        Check.sentence("then as told there.");
        TierHouse x = Check.peopled();
        x.list(0, Check.LOW, Check.MID, true);
        for (Request request : Request.values()) {
            int label = request == Request.GIVE ? Check.MID : Check.LOW;
            int last = request == Request.MAKE ? -1 : request == Request.RELEASE ? Check.MID : 0;
            int due = request == Request.GIVE ? 2 : request == Request.MAKE ? 1 : 0;
            Check.same(request + ", no file", request.ask(x, 0, label, 0, last), due);
            x.remove(0, 0);
        }
    }

    private static void giftsComeFromOthers() {
        Check.sentence("A cell that comes from another label is a GIFT.");
        TierHouse x = Check.peopled();
        x.subject(4, Check.MID);
        x.make(1, Check.MID, 0, -1);
        x.set(4, 0, 0, 1);
        Check.told("from another subject of that label", x, Check.MID, 2, 0, 40, 1);
        x.give(0, Check.MID, 0, 2);
        Check.told("from another label", x, Check.MID, 2, 0, 40, 1);
        Check.same("both are cells", x.size(1, Check.MID, 0), 2);
    }

    private static void illegalChangesNothing() {
        Check.sentence("A call that throws changes nothing. IllegalArgumentException: a subject, label, number or cell is none.");
        for (int call = 0; call < ILLEGAL_CALLS; call++) {
            TierHouse x = furnished();
            int kind = call;
            Check.illegal("call " + call, () -> illegal(x, kind));
            Check.alike("after call " + call, x, furnished());
        }
    }

    /** Files with cells and gifts, something listed, and subjects 0 to 2 have seen something. */
    private static TierHouse furnished() {
        TierHouse x = Check.peopled();
        x.list(1, Check.MID, Check.LOW, true);
        x.quota(Check.MID, 50);
        x.make(0, Check.LOW, 0, -1);
        x.set(0, 0, 0, 5);
        x.make(1, Check.MID, 1, Check.address(Check.LOW, 0));
        x.set(1, 1, 0, 6);
        x.give(0, Check.MID, 1, 7);
        x.make(0, Check.HIGH, 2, Check.address(Check.LOW, 0));
        x.read(0, Check.LOW, 0, 0);
        x.read(1, Check.MID, 1, 1);
        x.listed(2, Check.LOW, 0);
        return x;
    }

    private static void illegal(TierHouse x, int call) {
        switch (call) {
            case 0: x.subject(4, 1024); break;
            case 1: x.subject(16, 0); break;
            case 2: x.quota(Check.MID, 1001); break;
            case 3: x.quota(Check.MID, -1); break;
            case 4: x.quota(1024, 1); break;
            case 5: x.list(1, Check.MID, Check.MID, false); break;
            case 6: x.list(1, Check.MID, 1024, false); break;
            case 7: x.list(16, Check.MID, Check.LOW, false); break;
            case 8: x.flows(1024, 0); break;
            case 9: x.make(1, Check.MID, 0, -2); break;
            case 10: x.make(1, Check.MID, 0, 16384); break;
            case 11: x.make(1, Check.MID, 16, -1); break;
            case 12: x.make(1, 1024, 0, -1); break;
            case 13: x.set(1, 1, 24, 9); break;
            case 14: x.set(1, 1, -1, 9); break;
            case 15: x.set(1, 16, 0, 9); break;
            case 16: x.give(1, Check.HIGH, 16, 9); break;
            case 17: x.give(1, 1024, 0, 9); break;
            case 18: x.trim(1, 1, 25); break;
            case 19: x.trim(1, 1, -1); break;
            case 20: x.remove(1, 16); break;
            case 21: x.remove(1, -1); break;
            case 22: x.read(1, Check.MID, 1, 24); break;
            case 23: x.size(1, Check.MID, 16); break;
            case 24: x.there(1, 1024, 1); break;
            case 25: x.listed(2, 1024, 0); break;
            case 26: x.release(1, Check.MID, 1, 1024); break;
            case 27: x.seen(16, 0); break;
            default: x.told(Check.MID, 4); break;
        }
    }

    private static void unsupportedChangesNothing() {
        Check.sentence("A call that throws changes nothing.");
        for (int call = 0; call < 4; call++) {
            TierHouse x = crowded();
            int kind = call;
            Check.unsupported("call " + call, () -> unsupported(x, kind));
            Check.alike("after call " + call, x, crowded());
            if (kind == 3) {
                Check.same("it is not listed", x.list(1, Check.MID, Check.HIGH, false), false);
            }
        }
    }

    /** 200 files are there and 32 listings; subjects 0 and 1 have seen something. */
    private static TierHouse crowded() {
        TierHouse x = Check.full();
        x.list(1, Check.MID, Check.LOW, true);
        for (int k = 1; k < 32; k++) {
            x.list(2, k, k + 1, true);
        }
        x.subject(7, Check.fillLabel(0));
        x.remove(7, 0);
        x.make(1, Check.MID, 0, Check.address(Check.MID, 0));
        x.set(1, 0, 0, 8);
        x.read(1, Check.MID, 0, 0);
        x.listed(2, Check.MID, 0);
        return x;
    }

    private static void unsupported(TierHouse x, int call) {
        switch (call) {
            case 0: x.make(1, Check.MID, 1, -1); break;
            case 1: x.make(1, Check.HIGH, 1, -1); break;
            case 2: x.release(1, Check.MID, 0, Check.LOW); break;
            default: x.list(1, Check.MID, Check.HIGH, true); break;
        }
    }

    private static void theLastOfTheCalls() {
        Check.sentence("An object is used for at most 512 calls after it has been made; what later calls answer is free.");
        for (int kind = 0; kind < 7; kind++) {
            TierHouse x = new TierHouse();
            x.subject(0, Check.LOW);
            x.quota(Check.LOW, 1000);
            x.list(0, Check.LOW, Check.MID, true);
            x.make(0, Check.LOW, 0, Check.address(Check.LOW, 0));
            for (int call = 5; call < 512; call++) {
                repeated(x, kind);
            }
            Check.same("call 512, kind " + kind, repeated(x, kind), kind < 2 ? 2 : kind == 4 ? 0 : 1);
        }
    }

    private static int repeated(TierHouse x, int kind) {
        switch (kind) {
            case 0: return x.give(0, Check.MID, 0, 1);
            case 1: return x.make(0, Check.MID, 0, -1);
            case 2: return x.set(0, 0, 0, 1);
            case 3: return x.listed(0, Check.LOW, 0);
            case 4: return x.make(0, Check.LOW, 0, -1);
            case 5: return x.release(0, Check.LOW, 0, Check.MID);
            default: return x.list(0, Check.LOW, Check.MID, true) ? 1 : 0;
        }
    }

    private static void thereAndGoneToTheLast() {
        Check.sentence("An object is used for at most 512 calls after it has been made; what later calls answer is free.");
        TierHouse x = new TierHouse();
        x.subject(0, Check.LOW);
        x.make(0, Check.LOW, 0, -1);
        for (int call = 3; call <= 512; call++) {
            Check.same("call " + call, call % 2 == 1 ? x.remove(0, 0) : x.make(0, Check.LOW, 0, -1), 1);
        }
    }
}
