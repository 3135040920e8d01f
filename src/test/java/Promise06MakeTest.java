final class Promise06MakeTest {
    public static void main(String[] args) {
        atItsOwn();
        above();
        mayNot();
        quotaOfTheMaker();
        folders();
        houseIsFull();
        wrongInputs();
        Check.close("promise 6");
    }

    private static void atItsOwn() {
        TierHouse x = Check.peopled();
        Check.same("no label", x.make(9, Check.LOW, 0, -1), -1);
        Check.same("no label goes first", x.make(9, Check.LOW, 0, Check.address(Check.HIGH, 0)), -1);
        Check.same("new", x.make(1, Check.MID, 15, -1), 1);
        Check.told("costs one", x, Check.MID, 1, 0, 40, 1);
        x.set(1, 15, 0, 7);
        Check.same("there already", x.make(1, Check.MID, 15, Check.address(Check.MID, 1)), 0);
        Check.told("nothing happens", x, Check.MID, 2, 0, 40, 1);
        Check.same("cells stay", x.size(1, Check.MID, 15), 1);
        Check.same("so does the folder", x.listed(1, Check.MID, 1), 0);
        x.quota(Check.MID, 0);
        Check.same("looked at before -3", x.make(1, Check.MID, 15, -1), 0);
        Check.same("another is not", x.make(1, Check.MID, 14, -1), -3);
        Check.same("it is not there", x.there(1, Check.MID, 14), 0);
    }

    private static void above() {
        TierHouse x = Check.peopled();
        Check.same("new above", x.make(0, Check.MID, 3, -1), 2);
        Check.told("the maker's pays", x, Check.LOW, 1, 1, 40, 0);
        Check.told("a gift", x, Check.MID, 0, 0, 40, 1);
        Check.same("without cells", x.size(1, Check.MID, 3), 0);
        Check.same("there", x.there(1, Check.MID, 3), 1);
        x.set(1, 3, 0, 5);
        Check.same("there already", x.make(0, Check.MID, 3, Check.address(Check.LOW, 0)), 2);
        Check.told("it costs again", x, Check.LOW, 2, 2, 40, 0);
        Check.told("nothing else happens", x, Check.MID, 1, 0, 40, 1);
        Check.same("cells stay", x.size(1, Check.MID, 3), 1);
        Check.same("folder stays", x.listed(1, Check.LOW, 0), 0);
        x.remove(1, 3);
        Check.told("never comes back", x, Check.LOW, 2, 2, 40, 0);
    }

    private static void mayNot() {
        TierHouse x = Check.peopled();
        Check.same("down", x.make(1, Check.LOW, 0, -1), -2);
        Check.same("aside", x.make(1, Check.ASIDE, 0, -1), -2);
        Check.same("folder above", x.make(1, Check.MID, 0, Check.address(Check.HIGH, 0)), -2);
        Check.same("folder aside", x.make(1, Check.MID, 0, Check.address(Check.ASIDE, 0)), -2);
        Check.same("folder above the subject's only", x.make(1, Check.HIGH, 0, Check.address(Check.ASIDE, 0)), 2);
        x.make(1, Check.MID, 1, -1);
        Check.same("-2 before 0", x.make(1, Check.MID, 1, Check.address(Check.HIGH, 0)), -2);
        x.quota(Check.MID, 0);
        Check.same("-2 before -3", x.make(1, Check.LOW, 0, -1), -2);
        Check.same("nothing at LOW", x.told(Check.LOW, 3), 0);
    }

    private static void quotaOfTheMaker() {
        TierHouse x = Check.peopled();
        x.quota(Check.LOW, 2);
        x.quota(Check.MID, 0);
        Check.same("first", x.make(0, Check.LOW, 0, -1), 1);
        Check.same("second, above", x.make(0, Check.MID, 0, -1), 2);
        Check.same("third", x.make(0, Check.LOW, 1, -1), -3);
        Check.same("third, above", x.make(0, Check.MID, 1, -1), -3);
        Check.same("third, above, there already", x.make(0, Check.MID, 0, -1), -3);
        Check.told("nothing spent", x, Check.LOW, 2, 1, 2, 1);
        x.quota(Check.LOW, 3);
        Check.same("own, up to the quota", x.make(0, Check.LOW, 1, -1), 1);
        Check.same("not there", x.there(2, Check.MID, 1), 0);
    }

    private static void folders() {
        TierHouse x = Check.peopled();
        int below = Check.address(Check.LOW, 7);
        Check.same("the folder need not be there", x.make(1, Check.MID, 0, below), 1);
        Check.same("its own folder", x.make(1, Check.MID, 1, Check.address(Check.MID, 1)), 1);
        Check.same("none", x.make(1, Check.MID, 2, TierHouse.NONE), 1);
        Check.same("first folder", x.make(1, Check.MID, 3, 0), -2);
        x.listed(1, Check.LOW, 7);
        Check.seen("below", x, 1, Check.address(Check.MID, 0));
        x.listed(1, Check.MID, 1);
        Check.seen("itself", x, 1, Check.address(Check.MID, 1));
        x.subject(4, 1023);
        Check.same("last folder", x.make(4, 1023, 0, 16383), 1);
        x.subject(5, 0);
        Check.same("folder 0 is one", x.make(5, 0, 1, 0), 1);
        Check.same("it is listed", x.listed(5, 0, 0), 1);
    }

    private static void houseIsFull() {
        TierHouse x = Check.full();
        x.listed(0, Check.LOW, 0);
        Check.told("200 files", x, Check.LOW, 200, 200, 1000, 0);
        Check.unsupported("one more, own", () -> x.make(1, Check.MID, 0, -1));
        Check.unsupported("one more, above", () -> x.make(0, Check.MID, 0, -1));
        Check.told("nothing changed", x, Check.LOW, 200, 200, 1000, 0);
        Check.told("nothing changed", x, Check.MID, 0, 0, 40, 0);
        Check.same("there already, above", x.make(0, Check.fillLabel(0), 0, -1), 2);
        Check.same("may not", x.make(1, Check.LOW, 0, -1), -2);
        Check.same("no label", x.make(8, Check.LOW, 0, -1), -1);
        Check.illegal("no number", () -> x.make(0, Check.MID, 16, -1));
        x.quota(Check.MID, 0);
        Check.same("no room comes first", x.make(1, Check.MID, 0, -1), -3);
        x.quota(Check.MID, 40);
        x.subject(7, Check.fillLabel(0));
        Check.same("there already, own", x.make(7, Check.fillLabel(0), 0, -1), 0);
        Check.same("one less", x.remove(7, 0), 1);
        Check.same("so one more", x.make(1, Check.MID, 0, -1), 1);
        Check.unsupported("and no other", () -> x.make(1, Check.MID, 1, -1));
    }

    private static void wrongInputs() {
        TierHouse x = Check.peopled();
        Check.illegal("subject -1", () -> x.make(-1, Check.LOW, 0, -1));
        Check.illegal("subject 16", () -> x.make(16, Check.LOW, 0, -1));
        Check.illegal("label -1", () -> x.make(0, -1, 0, -1));
        Check.illegal("label 1024", () -> x.make(0, 1024, 0, -1));
        Check.illegal("number -1", () -> x.make(0, Check.LOW, -1, -1));
        Check.illegal("number 16", () -> x.make(0, Check.LOW, 16, -1));
        Check.illegal("folder -2", () -> x.make(0, Check.LOW, 0, -2));
        Check.illegal("folder 16384", () -> x.make(0, Check.LOW, 0, 16384));
        Check.illegal("no label yet, no number", () -> x.make(9, Check.LOW, 16, -1));
        Check.illegal("may not, no number", () -> x.make(1, Check.LOW, 16, -1));
        Check.told("nothing made", x, Check.LOW, 0, 0, 40, 0);
    }
}
