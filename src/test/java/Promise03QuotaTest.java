final class Promise03QuotaTest {
    public static void main(String[] args) {
        quotaOfEachLabel();
        lessThanIsUsed();
        wrongInputs();
        Check.close("promise 3");
    }

    private static void quotaOfEachLabel() {
        TierHouse x = new TierHouse();
        Check.same("at first", x.quota(5, 7), 40);
        Check.same("then", x.quota(5, 0), 7);
        Check.same("then none", x.quota(5, 1000), 0);
        Check.same("the most", x.quota(5, 40), 1000);
        Check.same("another label", x.quota(6, 1), 40);
        Check.same("first label", x.quota(0, 2), 40);
        Check.same("last label", x.quota(1023, 3), 40);
        Check.same("told", x.told(1023, 2), 3);
    }

    private static void lessThanIsUsed() {
        TierHouse x = Check.peopled();
        x.make(0, Check.LOW, 0, -1);
        x.set(0, 0, 0, 1);
        x.set(0, 0, 1, 2);
        Check.same("less than is used", x.quota(Check.LOW, 1), 40);
        Check.told("stays", x, Check.LOW, 3, 0, 1, 1);
        Check.same("no more", x.set(0, 0, 2, 3), -3);
        Check.same("a place costs nothing", x.set(0, 0, 1, 9), 1);
        Check.same("trim is no use", x.trim(0, 0, 0), 2);
        Check.same("at the quota", x.set(0, 0, 0, 3), -3);
        x.quota(Check.LOW, 2);
        Check.same("just up to the quota", x.set(0, 0, 0, 3), 1);
        Check.same("not above it", x.set(0, 0, 1, 3), -3);
    }

    private static void wrongInputs() {
        TierHouse x = new TierHouse();
        Check.illegal("label -1", () -> x.quota(-1, 0));
        Check.illegal("label 1024", () -> x.quota(1024, 0));
        Check.illegal("quota -1", () -> x.quota(0, -1));
        Check.illegal("quota 1001", () -> x.quota(0, 1001));
        Check.same("nothing changed", x.told(0, 2), 40);
    }
}
