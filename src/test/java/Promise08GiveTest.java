final class Promise08GiveTest {
    public static void main(String[] args) {
        blindAndPaid();
        mayNot();
        fullFile();
        quotaOfTheGiver();
        giftsGo();
        wrongInputs();
        Check.close("promise 8");
    }

    private static void blindAndPaid() {
        TierHouse x = Check.peopled();
        Check.same("no label", x.give(9, Check.HIGH, 0, 1), -1);
        Check.same("no file", x.give(0, Check.MID, 0, 5), 2);
        Check.told("it costs all the same", x, Check.LOW, 1, 1, 40, 0);
        Check.same("nothing is made", x.there(1, Check.MID, 0), 0);
        x.make(1, Check.MID, 0, -1);
        x.set(1, 0, 0, 4);
        Check.same("to a file", x.give(0, Check.MID, 0, -5), 2);
        Check.told("costs the giver's", x, Check.LOW, 2, 2, 40, 0);
        Check.told("not the other", x, Check.MID, 2, 0, 40, 1);
        x.read(1, Check.MID, 0, 1);
        Check.seen("just behind", x, 1, -5);
        x.read(1, Check.MID, 0, 0);
        Check.seen("before it", x, 1, 4);
    }

    private static void mayNot() {
        TierHouse x = Check.peopled();
        x.make(1, Check.MID, 0, -1);
        x.make(3, Check.ASIDE, 0, -1);
        Check.same("its own label", x.give(1, Check.MID, 0, 1), -2);
        Check.same("down", x.give(1, Check.LOW, 0, 1), -2);
        Check.same("aside", x.give(1, Check.ASIDE, 0, 1), -2);
        x.quota(Check.MID, 0);
        Check.same("-2 before -3", x.give(1, Check.MID, 0, 1), -2);
        Check.told("nothing spent", x, Check.MID, 1, 0, 0, 1);
        Check.same("nothing given", x.size(1, Check.MID, 0) + x.size(3, Check.ASIDE, 0), 0);
    }

    private static void fullFile() {
        TierHouse x = Check.peopled();
        x.make(1, Check.MID, 0, -1);
        for (int k = 0; k < 25; k++) {
            Check.same("gift " + k, x.give(0, Check.MID, 0, 100 + k), 2);
        }
        Check.same("24 cells", x.size(1, Check.MID, 0), 24);
        Check.told("each costs, the 25th too", x, Check.LOW, 25, 25, 40, 0);
        Check.told("none costs the other", x, Check.MID, 1, 0, 40, 1);
        x.read(1, Check.MID, 0, 23);
        Check.seen("the last one", x, 1, 123);
        Check.same("trim", x.trim(1, 0, 22), 2);
        Check.told("trimmed gifts gave nothing back", x, Check.MID, 1, 0, 40, 1);
        x.set(1, 0, 22, 9);
        Check.told("a cell behind them is no gift", x, Check.MID, 2, 0, 40, 1);
    }

    private static void quotaOfTheGiver() {
        TierHouse x = Check.peopled();
        x.make(1, Check.MID, 0, -1);
        x.quota(Check.LOW, 1);
        x.quota(Check.MID, 0);
        Check.same("up to the quota", x.give(0, Check.MID, 0, 1), 2);
        Check.same("above it", x.give(0, Check.MID, 0, 1), -3);
        Check.same("above it, no file", x.give(0, Check.MID, 1, 1), -3);
        Check.told("nothing spent", x, Check.LOW, 1, 1, 1, 0);
        Check.same("nothing given", x.size(1, Check.MID, 0), 1);
    }

    private static void giftsGo() {
        TierHouse x = Check.peopled();
        x.make(1, Check.MID, 0, -1);
        x.give(0, Check.MID, 0, 1);
        x.remove(1, 0);
        Check.told("spent never comes back", x, Check.LOW, 1, 1, 40, 0);
        Check.told("nothing is left", x, Check.MID, 0, 0, 40, 0);
        x.make(1, Check.MID, 0, -1);
        x.set(1, 0, 0, 1);
        Check.told("a new file has no old gifts", x, Check.MID, 2, 0, 40, 1);
    }

    private static void wrongInputs() {
        TierHouse x = Check.peopled();
        Check.illegal("subject -1", () -> x.give(-1, Check.MID, 0, 1));
        Check.illegal("subject 16", () -> x.give(16, Check.MID, 0, 1));
        Check.illegal("label -1", () -> x.give(0, -1, 0, 1));
        Check.illegal("label 1024", () -> x.give(0, 1024, 0, 1));
        Check.illegal("number -1", () -> x.give(0, Check.MID, -1, 1));
        Check.illegal("number 16", () -> x.give(0, Check.MID, 16, 1));
        Check.told("nothing spent", x, Check.LOW, 0, 0, 40, 0);
    }
}
