final class Promise09TrimTest {
    public static void main(String[] args) {
        howManyWent();
        giftsAndOwnCells();
        wrongInputs();
        Check.close("promise 9");
    }

    private static void howManyWent() {
        TierHouse x = Check.peopled();
        Check.same("no label", x.trim(9, 0, 0), -1);
        Check.same("no file", x.trim(1, 0, 0), 0);
        x.make(1, Check.MID, 0, -1);
        Check.same("no cells", x.trim(1, 0, 0), 0);
        for (int i = 0; i < 24; i++) {
            x.set(1, 0, i, i);
        }
        Check.same("all stay", x.trim(1, 0, 24), 0);
        Check.same("one goes", x.trim(1, 0, 23), 1);
        Check.same("not so many", x.trim(1, 0, 24), 0);
        Check.same("still 23", x.size(1, Check.MID, 0), 23);
        Check.same("many go", x.trim(1, 0, 2), 21);
        Check.same("so many it has", x.trim(1, 0, 2), 0);
        Check.told("room comes back", x, Check.MID, 3, 0, 40, 1);
        Check.same("gone", x.read(1, Check.MID, 0, 2), 0);
        x.read(1, Check.MID, 0, 1);
        Check.seen("the first ones stay", x, 1, 1);
        Check.same("the rest goes", x.trim(1, 0, 0), 2);
        Check.same("the file stays", x.there(1, Check.MID, 0), 1);
        Check.told("it still costs", x, Check.MID, 1, 0, 40, 1);
    }

    private static void giftsAndOwnCells() {
        TierHouse x = Check.peopled();
        x.make(1, Check.MID, 0, -1);
        x.set(1, 0, 0, 1);
        x.give(0, Check.MID, 0, 2);
        x.set(1, 0, 2, 3);
        x.give(0, Check.MID, 0, 4);
        Check.told("two of four are gifts", x, Check.MID, 3, 0, 40, 1);
        Check.same("a gift goes", x.trim(1, 0, 3), 1);
        Check.told("no room comes back", x, Check.MID, 3, 0, 40, 1);
        Check.same("two go", x.trim(1, 0, 1), 2);
        Check.told("room for one comes back", x, Check.MID, 2, 0, 40, 1);
        Check.told("not to the giver", x, Check.LOW, 2, 2, 40, 0);
        x.set(1, 0, 1, 5);
        Check.told("where a gift was is none now", x, Check.MID, 3, 0, 40, 1);
        x.quota(Check.MID, 0);
        Check.same("above the quota too", x.trim(1, 0, 0), 2);
    }

    private static void wrongInputs() {
        TierHouse x = Check.peopled();
        x.make(0, Check.LOW, 0, -1);
        x.set(0, 0, 0, 1);
        Check.illegal("subject -1", () -> x.trim(-1, 0, 0));
        Check.illegal("subject 16", () -> x.trim(16, 0, 0));
        Check.illegal("number -1", () -> x.trim(0, -1, 0));
        Check.illegal("number 16", () -> x.trim(0, 16, 0));
        Check.illegal("n -1", () -> x.trim(0, 0, -1));
        Check.illegal("n 25", () -> x.trim(0, 0, 25));
        Check.illegal("no label yet, n 25", () -> x.trim(9, 0, 25));
        Check.same("nothing changed", x.size(0, Check.LOW, 0), 1);
    }
}
