/** What the promises tell beside the terms, on both sides of each bound. */
final class BoundsOfPromisesTest {
    public static void main(String[] args) {
        Check.each(
            BoundsOfPromisesTest::newObject,
            BoundsOfPromisesTest::subjectHadNone,
            BoundsOfPromisesTest::quotaBefore,
            BoundsOfPromisesTest::quotaBelowWhatIsUsed,
            BoundsOfPromisesTest::quotas,
            BoundsOfPromisesTest::listedOrNoMore,
            BoundsOfPromisesTest::listedLabelsAreTwo,
            BoundsOfPromisesTest::thirtyTwoListed,
            BoundsOfPromisesTest::flows,
            BoundsOfPromisesTest::folders,
            BoundsOfPromisesTest::madeWhere200AreThere,
            BoundsOfPromisesTest::setCells,
            BoundsOfPromisesTest::gifts,
            BoundsOfPromisesTest::trimmedTo,
            BoundsOfPromisesTest::removed,
            BoundsOfPromisesTest::readCells,
            BoundsOfPromisesTest::sizes,
            BoundsOfPromisesTest::theres,
            BoundsOfPromisesTest::lists,
            BoundsOfPromisesTest::released,
            BoundsOfPromisesTest::releasedWhere200AreThere,
            BoundsOfPromisesTest::seenValues,
            BoundsOfPromisesTest::seenSubjects,
            BoundsOfPromisesTest::toldOfLabels,
            BoundsOfPromisesTest::toldWhat);
        Check.close("bounds of promises");
    }

    private static void newObject() {
        Check.sentence("No subjects, no files, nothing listed.");
        for (int part = 0; part < 16; part++) {
            TierHouse x = new TierHouse();
            Check.same("no subject " + part, x.there(part, 64 * part, 0), -1);
            Check.same("it has seen nothing", x.seen(part, 0), 0);
            for (int label = 64 * part; label < 64 * part + 64; label++) {
                Check.same("no files at " + label, x.told(label, 3), 0);
                Check.same("nothing used at " + label, x.told(label, 0), 0);
                Check.same("nothing spent at " + label, x.told(label, 1), 0);
                Check.same("not listed from " + label, x.list(part, label, 1023 - label, false), false);
            }
            Check.same("it may get a label", x.subject(part, 0), true);
            Check.same("it may not release", x.release(part, 0, 0, 0), -2);
        }
        TierHouse y = new TierHouse();
        y.subject(0, 63);
        for (int number = 0; number < 16; number++) {
            Check.same("no file " + number, y.there(0, 0, number) + y.there(0, 63, number), 0);
        }
        thirtyTwoFit(new TierHouse());
    }

    private static void subjectHadNone() {
        Check.sentence("A subject gets its label: whether it had none. IllegalArgumentException.");
        TierHouse x = new TierHouse();
        for (int subject = 0; subject < 16; subject++) {
            Check.same("had none, " + subject, x.subject(subject, 64 * subject), true);
            Check.same("has one, " + subject, x.subject(subject, 64 * subject), false);
            Check.same("has one, another told, " + subject, x.subject(subject, 1023), false);
            Check.illegal("has one, none told, " + subject, () -> x.subject(0, 1024));
        }
        Check.illegal("label -1", () -> new TierHouse().subject(0, -1));
        Check.illegal("subject 16", () -> x.subject(16, 0));
    }

    private static void quotaBefore() {
        Check.sentence("A label's quota: what it was");
        TierHouse x = new TierHouse();
        int before = 40;
        for (int cells : new int[] {40, 0, 1000, 1, 999, 0, 0}) {
            Check.same("before " + cells, x.quota(Check.MID, cells), before);
            Check.same("then", x.told(Check.MID, 2), cells);
            before = cells;
        }
        Check.same("another's", x.quota(Check.MID + 1, 7), 40);
    }

    private static void quotaBelowWhatIsUsed() {
        Check.sentence("(less than is used may be told).");
        for (int cells : new int[] {4, 3, 2, 0}) {
            TierHouse x = Check.peopled();
            x.make(1, Check.MID, 0, -1);
            x.set(1, 0, 0, 1);
            x.give(1, Check.HIGH, 0, 1);
            Check.same("3 are used, told " + cells, x.quota(Check.MID, cells), 40);
            Check.told("nothing is taken", x, Check.MID, 3, 1, cells, 1);
            Check.same("no cell goes", x.size(1, Check.MID, 0), 1);
            Check.same("one more", x.set(1, 0, 1, 1), cells == 4 ? 1 : -3);
            Check.same("what the quota was then", x.quota(Check.MID, 9), cells);
        }
    }

    private static void quotas() {
        Check.sentence("IllegalArgumentException: also if it is not 0 .. 1000.");
        TierHouse x = new TierHouse();
        for (int cells : new int[] {0, 1000}) {
            Check.legal("quota " + cells, true, () -> x.quota(0, cells));
            Check.same("it is set", x.told(0, 2), cells);
        }
        for (int cells : new int[] {-1, 1001, Integer.MIN_VALUE, Integer.MAX_VALUE}) {
            Check.illegal("quota " + cells, () -> x.quota(0, cells));
            Check.same("it is not set", x.told(0, 2), 1000);
        }
    }

    private static void listedOrNoMore() {
        Check.sentence("A subject, a label and another label are listed, or no more: whether they were.");
        TierHouse x = new TierHouse();
        for (int round = 0; round < 3; round++) {
            Check.same("no more, were not", x.list(15, 1023, 0, false), false);
            Check.same("listed, were not", x.list(15, 1023, 0, true), false);
            Check.same("listed, were", x.list(15, 1023, 0, true), true);
            Check.same("another subject", x.list(14, 1023, 0, false), false);
            Check.same("another label", x.list(15, 1022, 0, false), false);
            Check.same("another other label", x.list(15, 1023, 1, false), false);
            Check.same("the other way round", x.list(15, 0, 1023, false), false);
            Check.same("no more, were", x.list(15, 1023, 0, false), true);
        }
    }

    private static void listedLabelsAreTwo() {
        Check.sentence("IllegalArgumentException: also if the labels are one;");
        TierHouse x = new TierHouse();
        for (int label : new int[] {0, 1, Check.MID, 1022, 1023}) {
            Check.illegal("one, " + label, () -> x.list(0, label, label, true));
            Check.illegal("one, no more, " + label, () -> x.list(0, label, label, false));
            Check.legal("two, " + label, true, () -> x.list(0, label, label ^ 1, true));
            Check.legal("two, no more, " + label, true, () -> x.list(0, label, label ^ 1, false));
        }
        thirtyTwoFit(x);
        Check.illegal("one, where 32 are listed already", () -> x.list(0, 5, 5, true));
        Check.illegal("no subject, where 32 are listed already", () -> x.list(16, 5, 6, true));
        Check.illegal("no label, where 32 are listed already", () -> x.list(0, 5, 1024, true));
    }

    /** As many listings as there may be, where none of them is there yet. */
    private static void thirtyTwoFit(TierHouse x) {
        for (int k = 0; k < 32; k++) {
            int other = 2 * k + 1;
            Check.legal("listing " + k, true, () -> x.list(other % 16, 2 * other, other, true));
        }
    }

    private static void thirtyTwoListed() {
        Check.sentence("UnsupportedOperationException: 32 are listed already.");
        TierHouse x = new TierHouse();
        thirtyTwoFit(x);
        Check.unsupported("a 33rd", () -> x.list(0, 1, 0, true));
        Check.same("it is not listed", x.list(0, 1, 0, false), false);
        Check.same("what is listed already may be told", x.list(1, 2, 1, true), true);
        Check.same("the last as well", x.list(15, 126, 63, true), true);
        Check.same("what is not, no more", x.list(0, 0, 1, false), false);
        Check.same("what is, no more", x.list(1, 2, 1, false), true);
        Check.same("31: one more", x.list(0, 1, 0, true), false);
        Check.unsupported("32 again", () -> x.list(1, 2, 1, true));
        for (int k = 1; k < 32; k++) {
            int other = 2 * k + 1;
            Check.same("listing " + k + " was kept", x.list(other % 16, 2 * other, other, false), true);
        }
        Check.same("the new one as well", x.list(0, 1, 0, false), true);
        thirtyTwoFit(x);
        Check.unsupported("a 33rd in the end", () -> x.list(0, 1, 0, true));
    }

    private static void flows() {
        Check.sentence("Whether what is at a label may flow to another one. IllegalArgumentException.");
        TierHouse x = new TierHouse();
        Check.same("to itself", x.flows(Check.MID, Check.MID), true);
        for (int above : Check.JUST_ABOVE_MID) {
            Check.same("to one just above, " + above, x.flows(Check.MID, above), true);
            Check.same("from one just above, " + above, x.flows(above, Check.MID), false);
        }
        for (int not : Check.NOT_ABOVE_MID) {
            Check.same("to one not above, " + not, x.flows(Check.MID, not), false);
        }
        Check.illegal("from none", () -> x.flows(1024, 0));
        Check.illegal("to none", () -> x.flows(0, -1));
    }

    private static void folders() {
        Check.sentence("MAKE; folder is 16 times a label and a number, or NONE. IllegalArgumentException;");
        for (int folder : new int[] {-1, 0, 1, 15, 16, 16383}) {
            TierHouse x = new TierHouse();
            int label = folder < 0 ? 5 : folder / 16;
            x.subject(0, label);
            Check.same("folder " + folder, x.make(0, label, 3, folder), 1);
            int listed = 0;
            for (int number = 0; number < 16; number++) {
                int count = x.listed(0, label, number);
                Check.same("in number " + number, count, folder >= 0 && number == folder % 16 ? 1 : 0);
                listed += count;
            }
            Check.same("listed in all", listed, folder < 0 ? 0 : 1);
        }
        for (int folder : new int[] {-2, 16384, -16, Integer.MIN_VALUE, Integer.MAX_VALUE}) {
            TierHouse x = Check.peopled();
            Check.illegal("folder " + folder, () -> x.make(1, Check.MID, 0, folder));
            Check.illegal("folder " + folder + ", may not", () -> x.make(1, Check.LOW, 0, folder));
            Check.illegal("folder " + folder + ", no label", () -> x.make(9, Check.MID, 0, folder));
            Check.same("nothing made", x.told(Check.MID, 3), 0);
        }
    }

    private static void madeWhere200AreThere() {
        Check.sentence("UnsupportedOperationException: it would be made, and 200 files are there.");
        TierHouse x = nearlyFull();
        Check.same("the 200th, own", x.make(1, Check.MID, 0, -1), 1);
        Check.unsupported("a 201st, own", () -> x.make(1, Check.MID, 1, -1));
        Check.unsupported("a 201st, above", () -> x.make(1, Check.HIGH, 1, -1));
        Check.told("nothing made, nothing spent", x, Check.MID, 1, 0, 40, 1);
        Check.same("not there above", x.there(2, Check.HIGH, 1), 0);
        Check.same("there already, own", x.make(1, Check.MID, 0, -1), 0);
        Check.same("there already, above", x.make(0, Check.MID, 0, -1), 2);
        Check.same("may not", x.make(1, Check.LOW, 1, -1), -2);
        Check.same("no label", x.make(9, Check.LOW, 1, -1), -1);
        Check.same("GIVE makes none", x.give(0, Check.MID, 1, 5), 2);
        Check.same("SET makes none", x.set(1, 0, 0, 5), 1);
        x.quota(Check.MID, 2);
        Check.same("no room, own", x.make(1, Check.MID, 1, -1), -3);
        Check.same("no room, above", x.make(1, Check.HIGH, 1, -1), -3);
        x.quota(Check.MID, 40);
        Check.same("one goes", x.remove(1, 0), 1);
        Check.same("the 200th, above", x.make(1, Check.HIGH, 1, -1), 2);
        Check.unsupported("a 201st then", () -> x.make(1, Check.MID, 0, -1));
    }

    /** A peopled house in which 199 files are there; subject 7 has the label of the first 16. */
    private static TierHouse nearlyFull() {
        TierHouse x = Check.full();
        x.subject(7, Check.fillLabel(0));
        x.remove(7, 15);
        return x;
    }

    private static void setCells() {
        Check.sentence("SET. IllegalArgumentException: also if i is not 0 .. 23.");
        TierHouse x = Check.peopled();
        x.make(1, Check.MID, 0, -1);
        for (int i : new int[] {0, 23}) {
            Check.legal("SET cell " + i, true, () -> x.set(1, 0, i, 0));
            Check.legal("SET cell " + i + ", no file", true, () -> x.set(1, 1, i, 0));
            Check.legal("SET cell " + i + ", no label", true, () -> x.set(9, 0, i, 0));
        }
        for (int i : new int[] {-1, 24, 32, Integer.MIN_VALUE, Integer.MAX_VALUE}) {
            Check.illegal("SET cell " + i, () -> x.set(1, 0, i, 0));
            Check.illegal("SET cell " + i + ", no file", () -> x.set(1, 1, i, 0));
            Check.illegal("SET cell " + i + ", no label", () -> x.set(9, 0, i, 0));
        }
        Check.same("one cell came", x.size(1, Check.MID, 0), 1);
    }

    private static void gifts() {
        Check.sentence("GIVE. IllegalArgumentException.");
        TierHouse x = Check.peopled();
        x.make(1, Check.MID, 15, -1);
        for (int value : new int[] {Integer.MIN_VALUE, 0, Integer.MAX_VALUE}) {
            Check.same("value " + value, x.give(0, Check.MID, 15, value), 2);
            x.read(1, Check.MID, 15, x.size(1, Check.MID, 15) - 1);
            Check.seen("value " + value, x, 1, value);
        }
        Check.illegal("number 16", () -> x.give(0, Check.MID, 16, 0));
        Check.illegal("label 1024", () -> x.give(0, 1024, 15, 0));
        Check.illegal("subject 16", () -> x.give(16, Check.MID, 15, 0));
    }

    private static void trimmedTo() {
        Check.sentence("TRIM. IllegalArgumentException: also if n is not 0 .. 24.");
        TierHouse x = Check.peopled();
        x.make(1, Check.MID, 0, -1);
        x.set(1, 0, 0, 0);
        for (int n : new int[] {-1, 25, Integer.MIN_VALUE, Integer.MAX_VALUE}) {
            Check.illegal("TRIM to " + n, () -> x.trim(1, 0, n));
            Check.illegal("TRIM to " + n + ", no file", () -> x.trim(1, 1, n));
            Check.illegal("TRIM to " + n + ", no label", () -> x.trim(9, 0, n));
        }
        Check.same("none went", x.size(1, Check.MID, 0), 1);
        for (int n : new int[] {24, 0}) {
            Check.legal("TRIM to " + n, true, () -> x.trim(1, 0, n));
            Check.legal("TRIM to " + n + ", no file", true, () -> x.trim(1, 1, n));
            Check.legal("TRIM to " + n + ", no label", true, () -> x.trim(9, 0, n));
        }
    }

    private static void removed() {
        Check.sentence("REMOVE. IllegalArgumentException.");
        TierHouse x = Check.peopled();
        x.make(1, Check.MID, 0, -1);
        x.make(1, Check.MID, 15, -1);
        Check.illegal("number -1", () -> x.remove(1, -1));
        Check.illegal("number 16", () -> x.remove(1, 16));
        Check.illegal("subject 16", () -> x.remove(16, 0));
        Check.same("both are there", x.told(Check.MID, 3), 2);
        Check.same("number 15", x.remove(1, 15), 1);
        Check.same("number 0", x.remove(1, 0), 1);
    }

    private static void readCells() {
        Check.sentence("READ. IllegalArgumentException: also if i is not 0 .. 23.");
        TierHouse x = Check.peopled();
        x.make(1, Check.MID, 0, -1);
        for (int i : new int[] {0, 23}) {
            Check.legal("READ cell " + i, true, () -> x.read(1, Check.MID, 0, i));
            Check.legal("READ cell " + i + ", may not", true, () -> x.read(1, Check.HIGH, 0, i));
            Check.legal("READ cell " + i + ", no label", true, () -> x.read(9, Check.MID, 0, i));
        }
        for (int i : new int[] {-1, 24, 32, Integer.MIN_VALUE, Integer.MAX_VALUE}) {
            Check.illegal("READ cell " + i, () -> x.read(1, Check.MID, 0, i));
            Check.illegal("READ cell " + i + ", no file", () -> x.read(1, Check.MID, 1, i));
            Check.illegal("READ cell " + i + ", may not", () -> x.read(1, Check.HIGH, 0, i));
            Check.illegal("READ cell " + i + ", no label", () -> x.read(9, Check.MID, 0, i));
        }
    }

    private static void sizes() {
        Check.sentence("SIZE. IllegalArgumentException.");
        askedOfAFile(Request.SIZE);
    }

    private static void theres() {
        Check.sentence("THERE. IllegalArgumentException.");
        askedOfAFile(Request.THERE);
    }

    private static void lists() {
        Check.sentence("LIST. IllegalArgumentException.");
        askedOfAFile(Request.LIST);
    }

    /** The one file is in itself and has one cell, so that each of the three answers 1. */
    private static void askedOfAFile(Request request) {
        for (int number : new int[] {0, 15}) {
            TierHouse x = Check.peopled();
            x.make(1, Check.MID, number, Check.address(Check.MID, number));
            x.set(1, number, 0, 5);
            Check.same("number " + number, request.ask(x, 1, Check.MID, number, 0), 1);
            Check.same("number " + (15 - number), request.ask(x, 1, Check.MID, 15 - number, 0), 0);
            Check.same("from below", request.ask(x, 0, Check.MID, number, 0), -2);
            Check.same("without a label", request.ask(x, 9, Check.MID, number, 0), -1);
            Check.illegal("number 16", () -> request.ask(x, 1, Check.MID, 16, 0));
            Check.illegal("number -1", () -> request.ask(x, 1, Check.MID, -1, 0));
            Check.illegal("label 1024", () -> request.ask(x, 1, 1024, number, 0));
            Check.illegal("subject 16", () -> request.ask(x, 16, Check.MID, number, 0));
        }
    }

    private static void released() {
        Check.sentence("RELEASE. IllegalArgumentException;");
        for (int number : new int[] {0, 15}) {
            TierHouse x = Check.peopled();
            x.list(1, Check.MID, Check.LOW, true);
            x.make(1, Check.MID, number, -1);
            Check.illegal("to none", () -> x.release(1, Check.MID, number, 1024));
            Check.illegal("to -1", () -> x.release(1, Check.MID, number, -1));
            Check.illegal("label 1024", () -> x.release(1, 1024, number, Check.LOW));
            Check.illegal("number 16", () -> x.release(1, Check.MID, 16, Check.LOW));
            Check.illegal("number -1", () -> x.release(1, Check.MID, -1, Check.LOW));
            Check.illegal("subject 16", () -> x.release(16, Check.MID, number, Check.LOW));
            Check.same("nothing came", x.told(Check.LOW, 3), 0);
            Check.same("the same label is legal", x.release(1, Check.MID, number, Check.MID), -2);
            Check.same("number " + (15 - number), x.release(1, Check.MID, 15 - number, Check.LOW), 0);
            Check.same("number " + number, x.release(1, Check.MID, number, Check.LOW), 1);
            Check.same("it came", x.there(0, Check.LOW, number), 1);
        }
    }

    private static void releasedWhere200AreThere() {
        Check.sentence("UnsupportedOperationException: it would be made, and 200 files are there.");
        TierHouse x = nearlyFull();
        int from = Check.fillLabel(0);
        x.list(1, from, Check.LOW, true);
        x.list(1, from, Check.MID, true);
        x.set(7, 0, 0, 5);
        Check.same("the 200th", x.release(1, from, 0, Check.LOW), 1);
        Check.unsupported("a 201st", () -> x.release(1, from, 1, Check.LOW));
        Check.unsupported("a 201st, another label", () -> x.release(1, from, 0, Check.MID));
        Check.told("nothing made", x, Check.LOW, 202, 200, 1000, 1);
        Check.told("nothing made there", x, Check.MID, 0, 0, 40, 0);
        x.set(7, 0, 0, 6);
        Check.same("in the place of another", x.release(1, from, 0, Check.LOW), 1);
        x.read(0, Check.LOW, 0, 0);
        Check.seen("the new cell", x, 0, 6);
        Check.same("not there", x.release(1, from, 15, Check.LOW), 0);
        Check.same("may not", x.release(1, from, 1, Check.HIGH), -2);
        Check.same("no label", x.release(9, from, 1, Check.LOW), -1);
        x.quota(Check.MID, 1);
        Check.same("no room", x.release(1, from, 0, Check.MID), -3);
        Check.same("one goes", x.remove(0, 0), 1);
        Check.same("the 200th then", x.release(1, from, 1, Check.MID), 1);
        Check.unsupported("a 201st then", () -> x.release(1, from, 1, Check.LOW));
    }

    private static void seenValues() {
        Check.sentence("What a subject has SEEN: value i (of a READ only 0); 0 when there is none such.");
        TierHouse x = Check.peopled();
        int[] none = {-1, Integer.MIN_VALUE, 200, 1024, Integer.MAX_VALUE};
        noneSeen("nothing yet", x, 0, none);
        x.make(1, Check.MID, 0, Check.address(Check.MID, 0));
        x.make(1, Check.MID, 1, Check.address(Check.MID, 0));
        x.set(1, 0, 0, 70);
        x.listed(1, Check.MID, 0);
        Check.seen("two of a LIST", x, 1, Check.address(Check.MID, 0), Check.address(Check.MID, 1));
        noneSeen("a LIST", x, 2, none);
        x.read(1, Check.MID, 0, 0);
        Check.seen("one of a READ", x, 1, 70);
        noneSeen("a READ", x, 1, none);
        x.read(1, Check.MID, 0, 1);
        noneSeen("a READ of none", x, 0, none);
        TierHouse y = fullFolder();
        Check.same("200 of a LIST", y.listed(2, Check.LOW, 0), 200);
        for (int k = 0; k < 200; k++) {
            Check.same("value " + k, y.seen(2, k), Check.address(Check.fillLabel(k), k % 16));
        }
        Check.same("value 200", y.seen(2, 200), 0);
        Check.same("value -1", y.seen(2, -1), 0);
    }

    private static void noneSeen(String what, TierHouse x, int from, int[] none) {
        for (int i = from; i < 4; i++) {
            Check.same(what + ", value " + i, x.seen(1, i), 0);
        }
        for (int i : none) {
            Check.same(what + ", value " + i, x.seen(1, i), 0);
        }
    }

    /** All files that may be there, in one folder. */
    private static TierHouse fullFolder() {
        TierHouse x = Check.peopled();
        x.quota(Check.LOW, 200);
        for (int k = 0; k < 200; k++) {
            x.make(0, Check.fillLabel(k), k % 16, Check.address(Check.LOW, 0));
        }
        return x;
    }

    private static void seenSubjects() {
        Check.sentence("IllegalArgumentException: there is no such subject.");
        TierHouse x = new TierHouse();
        for (int subject = 0; subject < 16; subject++) {
            int one = subject;
            Check.legal("subject " + one + " without a label", true, () -> x.seen(one, 0));
            x.subject(subject, 0);
            Check.legal("subject " + one, true, () -> x.seen(one, 0));
        }
        for (int subject : new int[] {-1, 16, Integer.MIN_VALUE, Integer.MAX_VALUE}) {
            Check.illegal("subject " + subject, () -> x.seen(subject, 0));
            Check.illegal("subject " + subject + ", value -1", () -> x.seen(subject, -1));
        }
    }

    private static void toldOfLabels() {
        Check.sentence("Of a label: how much it uses (what = 0), how much of that was spent (1), its quota (2),"
            + " how many files are there (3).");
        TierHouse x = Check.peopled();
        x.quota(Check.MID, 900);
        x.make(1, Check.MID, 0, -1);
        x.set(1, 0, 0, 1);
        x.set(1, 0, 1, 1);
        x.give(1, Check.HIGH, 0, 1);
        x.give(1, Check.HIGH, 0, 1);
        for (int number = 1; number < 16; number++) {
            x.make(0, Check.MID, number, -1);
        }
        Check.same("uses", x.told(Check.MID, 0), 5);
        Check.same("spent", x.told(Check.MID, 1), 2);
        Check.same("quota", x.told(Check.MID, 2), 900);
        Check.same("files", x.told(Check.MID, 3), 16);
        Check.told("the one before", x, Check.MID - 1, 0, 0, 40, 0);
        Check.told("the one behind", x, Check.MID + 1, 0, 0, 40, 0);
    }

    private static void toldWhat() {
        Check.sentence("IllegalArgumentException: also another what.");
        TierHouse x = new TierHouse();
        for (int what = 0; what < 4; what++) {
            int which = what;
            Check.legal("what " + which, true, () -> x.told(0, which));
        }
        for (int what : new int[] {-1, 4, Integer.MIN_VALUE, Integer.MAX_VALUE}) {
            Check.illegal("what " + what, () -> x.told(0, what));
        }
    }
}
