final class Promise17ToldTest {
    public static void main(String[] args) {
        allFour();
        manySubjectsOfOneLabel();
        wrongInputs();
        Check.close("promise 17");
    }

    private static void allFour() {
        TierHouse x = Check.peopled();
        Check.told("at first", x, Check.MID, 0, 0, 40, 0);
        x.make(1, Check.MID, 0, -1);
        x.set(1, 0, 0, 1);
        x.set(1, 0, 1, 2);
        Check.told("own file and cells", x, Check.MID, 3, 0, 40, 1);
        x.make(0, Check.MID, 1, -1);
        x.give(0, Check.MID, 0, 3);
        Check.told("gifts do not count", x, Check.MID, 3, 0, 40, 2);
        Check.told("they are spent", x, Check.LOW, 2, 2, 40, 0);
        x.set(1, 1, 0, 4);
        Check.told("an own cell in a gift does", x, Check.MID, 4, 0, 40, 2);
        x.give(1, Check.HIGH, 0, 5);
        Check.told("spent is used", x, Check.MID, 5, 1, 40, 2);
        x.remove(1, 0);
        x.remove(1, 1);
        x.quota(Check.MID, 7);
        Check.told("at last", x, Check.MID, 1, 1, 7, 0);
        Check.told("a neighbour of it", x, Check.MID + 1, 0, 0, 40, 0);
    }

    private static void manySubjectsOfOneLabel() {
        TierHouse x = Check.peopled();
        x.subject(5, Check.MID);
        x.make(1, Check.MID, 0, -1);
        Check.same("the other finds it", x.make(5, Check.MID, 0, -1), 0);
        x.set(5, 0, 0, 3);
        x.give(5, Check.HIGH, 0, 1);
        x.give(1, Check.HIGH, 0, 1);
        Check.told("they pay together", x, Check.MID, 4, 2, 40, 1);
        Check.told("nothing is there above", x, Check.HIGH, 0, 0, 40, 0);
    }

    private static void wrongInputs() {
        TierHouse x = new TierHouse();
        Check.illegal("label -1", () -> x.told(-1, 0));
        Check.illegal("label 1024", () -> x.told(1024, 0));
        Check.illegal("what -1", () -> x.told(0, -1));
        Check.illegal("what 4", () -> x.told(0, 4));
    }
}
