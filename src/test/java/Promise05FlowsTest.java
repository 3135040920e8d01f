final class Promise05FlowsTest {
    public static void main(String[] args) {
        eachPartAlone();
        manyPairs();
        wrongInputs();
        Check.close("promise 5");
    }

    private static void eachPartAlone() {
        TierHouse x = new TierHouse();
        Check.same("to itself", x.flows(Check.MID, Check.MID), true);
        Check.same("secrecy up", x.flows(Check.label(1, 0, 0, 0), Check.label(2, 0, 0, 0)), true);
        Check.same("secrecy down", x.flows(Check.label(2, 0, 0, 0), Check.label(1, 0, 0, 0)), false);
        Check.same("a secret more", x.flows(Check.label(0, 5, 0, 0), Check.label(0, 13, 0, 0)), true);
        Check.same("a secret less", x.flows(Check.label(0, 13, 0, 0), Check.label(0, 5, 0, 0)), false);
        Check.same("other secrets, a greater number", x.flows(Check.label(0, 3, 0, 0), Check.label(0, 12, 0, 0)), false);
        Check.same("trust down", x.flows(Check.label(0, 0, 3, 0), Check.label(0, 0, 2, 0)), true);
        Check.same("trust up", x.flows(Check.label(0, 0, 2, 0), Check.label(0, 0, 3, 0)), false);
        Check.same("a warrant less", x.flows(Check.label(0, 0, 0, 3), Check.label(0, 0, 0, 2)), true);
        Check.same("a warrant more", x.flows(Check.label(0, 0, 0, 2), Check.label(0, 0, 0, 3)), false);
        Check.same("another warrant", x.flows(Check.label(0, 0, 0, 2), Check.label(0, 0, 0, 1)), false);
        Check.same("the named ones", x.flows(Check.LOW, Check.MID), true);
        Check.same("the named ones", x.flows(Check.MID, Check.HIGH), true);
        Check.same("aside", x.flows(Check.MID, Check.ASIDE) || x.flows(Check.ASIDE, Check.MID), false);
    }

    private static void manyPairs() {
        for (int from = 0; from < 1024; from++) {
            TierHouse x = new TierHouse();
            for (int k = 0; k < 200; k++) {
                int to = (from + k * 37) % 1024;
                Check.same("flows(" + from + ", " + to + ")", x.flows(from, to), Check.mayFlow(from, to));
                Check.same("flows(" + to + ", " + from + ")", x.flows(to, from), Check.mayFlow(to, from));
            }
        }
    }

    private static void wrongInputs() {
        TierHouse x = new TierHouse();
        Check.illegal("from -1", () -> x.flows(-1, 0));
        Check.illegal("from 1024", () -> x.flows(1024, 0));
        Check.illegal("to -1", () -> x.flows(0, -1));
        Check.illegal("to 1024", () -> x.flows(0, 1024));
    }
}
