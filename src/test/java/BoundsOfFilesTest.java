/** The document's sentences on subjects, files, cells and folders, on both sides of each bound. */
final class BoundsOfFilesTest {
    public static void main(String[] args) {
        Check.each(
            BoundsOfFilesTest::subjectsAre0To15,
            BoundsOfFilesTest::labelOnceGot,
            BoundsOfFilesTest::labelNeverChanges,
            BoundsOfFilesTest::numbersAre0To15,
            BoundsOfFilesTest::filesAreThereOrNot,
            BoundsOfFilesTest::upTo24Cells,
            BoundsOfFilesTest::foldersFlowToTheFile,
            BoundsOfFilesTest::folderIsToldWhenMade,
            BoundsOfFilesTest::folderNeedNotBeThere);
        Check.close("bounds of files");
    }

    private static void subjectsAre0To15() {
        Check.sentence("SUBJECTS are 0 .. 15,");
        for (int subject : new int[] {0, 15}) {
            askOfSubject(subject, true);
        }
        for (int subject : new int[] {-1, 16, -16, 1024, Integer.MIN_VALUE, Integer.MAX_VALUE}) {
            askOfSubject(subject, false);
        }
    }

    private static void askOfSubject(int subject, boolean is) {
        TierHouse x = new TierHouse();
        Check.legal("list, subject " + subject, is, () -> x.list(subject, 1, 2, true));
        Check.legal("list no more, subject " + subject, is, () -> x.list(subject, 1, 2, false));
        Check.legal("seen, subject " + subject, is, () -> x.seen(subject, 0));
        for (Request request : Request.values()) {
            Check.legal(request + ", subject " + subject + " without a label", is, () -> request.ask(x, subject, 0, 0, 0));
        }
        Check.legal("subject, subject " + subject, is, () -> x.subject(subject, 0));
        for (Request request : Request.values()) {
            Check.legal(request + ", subject " + subject, is, () -> request.ask(x, subject, 0, 0, 0));
        }
    }

    private static void labelOnceGot() {
        Check.sentence("each with a label once it has got one;");
        TierHouse x = new TierHouse();
        for (int subject = 0; subject < 16; subject++) {
            Check.same("not yet, " + subject, x.there(subject, 0, 0), -1);
            Check.same("it gets 0, " + subject, x.subject(subject, 0), true);
            Check.same("then, " + subject, x.there(subject, 0, 0), 0);
        }
    }

    private static void labelNeverChanges() {
        Check.sentence("that never changes.");
        for (int first : new int[] {0, Check.MID, 1023}) {
            for (int then : new int[] {0, 1, Check.MID, 1023}) {
                TierHouse x = new TierHouse();
                x.subject(3, first);
                Check.same("a second one, " + then, x.subject(3, then), false);
                Check.same("makes where it was, " + first, x.make(3, first, 0, -1), 1);
                Check.same("and is there, " + first, x.told(first, 3), 1);
            }
        }
    }

    private static void numbersAre0To15() {
        Check.sentence("FILES are told by a label and a number 0 .. 15:");
        for (int number : new int[] {0, 15}) {
            askOfNumber(number, true);
        }
        for (int number : new int[] {-1, 16, -16, 16384, Integer.MIN_VALUE, Integer.MAX_VALUE}) {
            askOfNumber(number, false);
        }
        TierHouse x = Check.peopled();
        x.make(1, Check.MID, 15, -1);
        x.make(1, Check.MID, 0, -1);
        for (int label = Check.MID - 1; label <= Check.MID + 1; label++) {
            for (int number = 0; number < 16; number++) {
                boolean due = label == Check.MID && number % 15 == 0;
                Check.same("file " + number + " at " + label, x.there(2, label, number), due ? 1 : 0);
            }
        }
    }

    private static void askOfNumber(int number, boolean is) {
        TierHouse x = Check.peopled();
        for (Request request : Request.values()) {
            Check.legal(request + ", number " + number, is, () -> request.ask(x, 1, Check.MID, number, 0));
            Check.legal(request + ", number " + number + ", may not", is, () -> request.ask(x, 1, 1023, number, 0));
            Check.legal(request + ", number " + number + " without a label", is, () -> request.ask(x, 9, 0, number, 0));
        }
    }

    private static void filesAreThereOrNot() {
        Check.sentence("each is there or not,");
        TierHouse x = Check.peopled();
        for (int number = 0; number < 16; number++) {
            Check.same("not yet, " + number, x.there(1, Check.MID, number), 0);
            Check.same("made, " + number, x.make(1, Check.MID, number, -1), 1);
            Check.same("there, " + number, x.there(1, Check.MID, number), 1);
        }
        for (int number = 0; number < 16; number++) {
            Check.same("removed, " + number, x.remove(1, number), 1);
            Check.same("not any more, " + number, x.there(1, Check.MID, number), 0);
            Check.same("the others are, " + number, x.told(Check.MID, 3), 15 - number);
        }
    }

    private static void upTo24Cells() {
        Check.sentence("and has up to 24 CELLS (ints),");
        TierHouse x = Check.peopled();
        x.make(1, Check.MID, 0, -1);
        for (int i = 0; i < 24; i++) {
            Check.same("cell " + i, x.set(1, 0, i, value(i)), 1);
            Check.same("cells", x.size(1, Check.MID, 0), i + 1);
        }
        Check.illegal("a 25th", () -> x.set(1, 0, 24, 0));
        x.give(0, Check.MID, 0, 1);
        Check.same("a 25th as a gift", x.size(1, Check.MID, 0), 24);
        for (int i = 0; i < 24; i++) {
            x.read(1, Check.MID, 0, i);
            Check.seen("cell " + i, x, 1, value(i));
        }
    }

    /** The ends of the ints, and others round 0. */
    private static int value(int i) {
        int[] ends = {Integer.MIN_VALUE, Integer.MAX_VALUE, -1, 0, 1, 65536};
        return i < ends.length ? ends[i] : 100 + i;
    }

    private static void foldersFlowToTheFile() {
        Check.sentence("and maybe a FOLDER, which is a file's label and number from which may flow to its own label");
        TierHouse x = Check.peopled();
        Check.same("none", x.make(1, Check.MID, 0, TierHouse.NONE), 1);
        Check.same("its own label", x.make(1, Check.MID, 1, Check.address(Check.MID, 9)), 1);
        Check.same("a label below", x.make(1, Check.MID, 2, Check.address(Check.LOW, 9)), 1);
        Check.same("a label above", x.make(1, Check.MID, 3, Check.address(Check.HIGH, 9)), -2);
        Check.same("a label aside", x.make(1, Check.MID, 4, Check.address(Check.ASIDE, 9)), -2);
        for (int above : Check.JUST_ABOVE_MID) {
            Check.same("just above", x.make(1, Check.MID, 5, Check.address(above, 15)), -2);
        }
        Check.same("none of these is there", x.told(Check.MID, 3), 3);
        Check.same("one has its own label's", x.listed(1, Check.MID, 9), 1);
        Check.same("one has one below", x.listed(1, Check.LOW, 9), 1);
        Check.same("not with another number", x.listed(1, Check.MID, 8) + x.listed(1, Check.LOW, 10), 0);
    }

    private static void folderIsToldWhenMade() {
        Check.sentence("(told when it is made;");
        TierHouse x = Check.peopled();
        x.make(1, Check.MID, 0, Check.address(Check.LOW, 1));
        x.make(1, Check.MID, 0, Check.address(Check.LOW, 2));
        x.make(0, Check.MID, 0, Check.address(Check.LOW, 2));
        Check.same("told once", x.listed(1, Check.LOW, 1), 1);
        Check.same("not when it is there already", x.listed(1, Check.LOW, 2), 0);
        x.remove(1, 0);
        x.make(1, Check.MID, 0, Check.address(Check.LOW, 2));
        Check.same("told when it is made again", x.listed(1, Check.LOW, 2), 1);
        Check.same("no more in the first one", x.listed(1, Check.LOW, 1), 0);
    }

    private static void folderNeedNotBeThere() {
        Check.sentence("whether that file is there, then or later, is no matter).");
        TierHouse x = Check.peopled();
        Check.same("not there then", x.make(0, Check.LOW, 1, Check.address(Check.LOW, 0)), 1);
        Check.same("listed", x.listed(0, Check.LOW, 0), 1);
        x.make(0, Check.LOW, 0, -1);
        Check.same("there later", x.listed(0, Check.LOW, 0), 1);
        Check.same("there then", x.make(0, Check.LOW, 2, Check.address(Check.LOW, 0)), 1);
        x.remove(0, 0);
        Check.same("not there later", x.listed(0, Check.LOW, 0), 2);
        Check.seen("both", x, 0, Check.address(Check.LOW, 1), Check.address(Check.LOW, 2));
        Check.same("both are there", x.told(Check.LOW, 3), 2);
    }
}
