final class Promise02SubjectTest {
    public static void main(String[] args) {
        labelNeverChanges();
        everySubjectAndLabel();
        wrongInputs();
        Check.close("promise 2");
    }

    private static void labelNeverChanges() {
        TierHouse x = new TierHouse();
        Check.same("had none", x.subject(3, Check.MID), true);
        Check.same("has one", x.subject(3, Check.HIGH), false);
        Check.same("the same again", x.subject(3, Check.MID), false);
        Check.same("may still not read HIGH", x.there(3, Check.HIGH, 0), -2);
        Check.same("may still read MID", x.there(3, Check.MID, 0), 0);
        Check.same("label 0 is a label", x.subject(4, 0), true);
        Check.same("label 0 stays", x.subject(4, 5), false);
    }

    private static void everySubjectAndLabel() {
        TierHouse x = new TierHouse();
        for (int subject = 0; subject < 16; subject++) {
            Check.same("subject " + subject, x.subject(subject, subject == 15 ? 1023 : subject), true);
        }
        Check.same("one label for many", x.there(15, 1023, 15), 0);
    }

    private static void wrongInputs() {
        TierHouse x = new TierHouse();
        Check.illegal("subject -1", () -> x.subject(-1, 0));
        Check.illegal("subject 16", () -> x.subject(16, 0));
        Check.illegal("label -1", () -> x.subject(0, -1));
        Check.illegal("label 1024", () -> x.subject(0, 1024));
        Check.illegal("far off", () -> x.subject(Integer.MIN_VALUE, Integer.MAX_VALUE));
        Check.same("nothing changed", x.subject(0, 7), true);
        Check.illegal("even if it has one", () -> x.subject(0, 1024));
    }
}
