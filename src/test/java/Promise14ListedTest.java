final class Promise14ListedTest {
    public static void main(String[] args) {
        byLabelsThenNumbers();
        onlyWhatMayFlow();
        snapshot();
        twoHundred();
        wrongInputs();
        Check.close("promise 14");
    }

    private static void byLabelsThenNumbers() {
        TierHouse x = Check.peopled();
        int folder = Check.address(Check.LOW, 4);
        x.make(1, Check.MID, 9, folder);
        x.make(0, Check.LOW, 12, folder);
        x.make(2, Check.HIGH, 0, folder);
        x.make(0, Check.MID, 2, folder);
        x.make(0, Check.LOW, 3, folder);
        x.make(3, Check.ASIDE, 1, folder);
        x.make(0, Check.LOW, 5, Check.address(Check.LOW, 5));
        x.make(0, Check.LOW, 6, -1);
        Check.same("all", x.listed(2, Check.LOW, 4), 6);
        int[] due = {Check.address(Check.HIGH, 0), Check.address(Check.MID, 2), Check.address(Check.MID, 9),
            Check.address(Check.ASIDE, 1), Check.address(Check.LOW, 3), Check.address(Check.LOW, 12)};
        java.util.Arrays.sort(due);
        Check.seen("in order", x, 2, due);
    }

    private static void onlyWhatMayFlow() {
        TierHouse x = Check.peopled();
        int folder = Check.address(Check.LOW, 4);
        x.make(0, Check.LOW, 1, folder);
        x.make(0, Check.MID, 1, folder);
        x.make(0, Check.ASIDE, 1, folder);
        x.make(0, Check.HIGH, 1, folder);
        x.make(1, Check.HIGH, 2, Check.address(Check.MID, 0));
        Check.same("no label", x.listed(9, Check.LOW, 4), -1);
        Check.same("LOW", x.listed(0, Check.LOW, 4), 1);
        Check.seen("LOW", x, 0, Check.address(Check.LOW, 1));
        Check.same("MID", x.listed(1, Check.LOW, 4), 2);
        Check.seen("MID", x, 1, Check.address(Check.MID, 1), Check.address(Check.LOW, 1));
        Check.same("ASIDE", x.listed(3, Check.LOW, 4), 2);
        Check.seen("ASIDE", x, 3, Check.address(Check.ASIDE, 1), Check.address(Check.LOW, 1));
        Check.same("HIGH", x.listed(2, Check.LOW, 4), 4);
        Check.same("a folder above", x.listed(0, Check.MID, 0), -2);
        Check.seen("nothing then", x, 0);
        Check.same("a folder aside", x.listed(3, Check.MID, 0), -2);
        Check.same("its file is above", x.listed(1, Check.MID, 0), 0);
        Check.seen("nothing then", x, 1);
        Check.same("another folder", x.listed(2, Check.LOW, 5), 0);
    }

    private static void snapshot() {
        TierHouse x = Check.peopled();
        int folder = Check.address(Check.LOW, 0);
        x.make(0, Check.LOW, 1, folder);
        x.make(0, Check.LOW, 2, folder);
        x.listed(1, Check.LOW, 0);
        x.remove(0, 1);
        Check.seen("as it was then", x, 1, Check.address(Check.LOW, 1), Check.address(Check.LOW, 2));
        Check.same("now", x.listed(1, Check.LOW, 0), 1);
        Check.seen("now", x, 1, Check.address(Check.LOW, 2));
    }

    private static void twoHundred() {
        TierHouse x = Check.peopled();
        x.quota(Check.LOW, 1000);
        for (int k = 199; k >= 0; k--) {
            x.make(0, Check.fillLabel(k), k % 16, Check.address(Check.LOW, 15));
        }
        Check.same("all are listed", x.listed(2, Check.LOW, 15), 200);
        int[] due = new int[200];
        for (int k = 0; k < 200; k++) {
            due[k] = Check.address(Check.fillLabel(k), k % 16);
        }
        Check.seen("in order", x, 2, due);
    }

    private static void wrongInputs() {
        TierHouse x = Check.peopled();
        x.make(0, Check.LOW, 1, Check.address(Check.LOW, 0));
        x.listed(0, Check.LOW, 0);
        Check.illegal("subject -1", () -> x.listed(-1, Check.LOW, 0));
        Check.illegal("subject 16", () -> x.listed(16, Check.LOW, 0));
        Check.illegal("label -1", () -> x.listed(0, -1, 0));
        Check.illegal("label 1024", () -> x.listed(0, 1024, 0));
        Check.illegal("number -1", () -> x.listed(0, Check.LOW, -1));
        Check.illegal("number 16", () -> x.listed(0, Check.LOW, 16));
        Check.illegal("may not, number 16", () -> x.listed(0, Check.HIGH, 16));
        Check.seen("what was seen stays", x, 0, Check.address(Check.LOW, 1));
    }
}
