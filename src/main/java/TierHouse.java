import java.util.ArrayList;
import java.util.Arrays;

/**
 * A house of files at many levels: who may read what and who may write where is told by labels of
 * secrecy and of trust alone, so that nothing ever goes where it may not; writing upwards is blind,
 * room is paid by who writes, and only what is listed comes down.
 */
public final class TierHouse {
    public static final int NONE = -1;

    private static final int LABELS = 1024;
    private static final int SUBJECTS = 16;
    private static final int NUMBERS = 16;
    private static final int MOST_CELLS = 24;
    private static final int MOST_FILES = 200;
    private static final int MOST_LISTINGS = 32;
    private static final int FIRST_QUOTA = 40;
    private static final int MOST_QUOTA = 1000;

    private static final int ALLOWED = 0;
    private static final int HAS_NO_LABEL = -1;
    private static final int MAY_NOT = -2;
    private static final int OVER_QUOTA = -3;
    /** Never answered to a caller: the methods of the face throw where they meet it. */
    private static final int HOUSE_IS_FULL = -4;
    /** The one answer to a write upwards, so that the writer learns nothing of what is there. */
    private static final int BLIND = 2;

    private final int[] labelOf = new int[SUBJECTS];
    private final int[] quotaOf = new int[LABELS];
    private final int[] spentBy = new int[LABELS];
    /** Always in the order of the addresses, which is the order in which a LIST shows them. */
    private final ArrayList<StoredFile> files = new ArrayList<StoredFile>();
    private final int[] listings = new int[MOST_LISTINGS];
    private int listingCount = 0;
    /** A row for each subject: a LIST shows all files at the most. */
    private final int[][] seenBy = new int[SUBJECTS][MOST_FILES];
    private final int[] seenCount = new int[SUBJECTS];

    public TierHouse() {
        Arrays.fill(labelOf, NONE);
        Arrays.fill(quotaOf, FIRST_QUOTA);
    }

    public boolean subject(int subject, int label) throws IllegalArgumentException {
        requireSubject(subject);
        requireLabel(label);
        if (labelOf[subject] != NONE) {
            return false;
        }
        labelOf[subject] = label;
        return true;
    }

    public int quota(int label, int cells) throws IllegalArgumentException {
        requireLabel(label);
        requireAtMost(MOST_QUOTA, cells);
        int before = quotaOf[label];
        quotaOf[label] = cells;
        return before;
    }

    public boolean list(int subject, int from, int to, boolean listed)
            throws IllegalArgumentException, UnsupportedOperationException {
        requireSubject(subject);
        requireLabel(from);
        requireLabel(to);
        if (from == to) {
            throw new IllegalArgumentException("the labels are one");
        }
        int listing = listingOf(subject, from, to);
        boolean was = isListed(listing);
        if (listed && !was) {
            if (listingCount >= MOST_LISTINGS) {
                throw new UnsupportedOperationException("32 are listed already");
            }
            addListing(listing);
        }
        if (!listed) {
            dropListing(listing);
        }
        return was;
    }

    public boolean flows(int from, int to) throws IllegalArgumentException {
        requireLabel(from);
        requireLabel(to);
        return mayFlow(from, to);
    }

    public int make(int subject, int label, int number, int folder)
            throws IllegalArgumentException, UnsupportedOperationException {
        requireSubject(subject);
        requireFile(label, number);
        requireFolder(folder);
        int answer = answerMake(subject, label, number, folder);
        if (answer == HOUSE_IS_FULL) {
            throw new UnsupportedOperationException("200 files are there");
        }
        // Only now: a call that throws leaves what was seen.
        forgetSeen(subject);
        return answer;
    }

    public int set(int subject, int number, int i, int value) throws IllegalArgumentException {
        requireSubject(subject);
        requireNumber(number);
        requireCell(i);
        forgetSeen(subject);
        int own = labelOf[subject];
        if (own == NONE) {
            return HAS_NO_LABEL;
        }
        StoredFile file = find(own, number);
        if (file == null || i > file.count) {
            return 0;
        }
        if (i < file.count) {
            file.cells[i] = value;
            return 1;
        }
        if (!hasRoom(own, 1)) {
            return OVER_QUOTA;
        }
        file.append(value, false);
        return 1;
    }

    public int give(int subject, int label, int number, int value) throws IllegalArgumentException {
        requireSubject(subject);
        requireFile(label, number);
        forgetSeen(subject);
        int own = labelOf[subject];
        if (own == NONE) {
            return HAS_NO_LABEL;
        }
        if (own == label || !mayFlow(own, label)) {
            return MAY_NOT;
        }
        if (!hasRoom(own, 1)) {
            return OVER_QUOTA;
        }
        spentBy[own]++;
        StoredFile file = find(label, number);
        if (file != null) {
            file.append(value, true);
        }
        return BLIND;
    }

    public int trim(int subject, int number, int n) throws IllegalArgumentException {
        requireSubject(subject);
        requireNumber(number);
        requireAtMost(MOST_CELLS, n);
        forgetSeen(subject);
        int own = labelOf[subject];
        if (own == NONE) {
            return HAS_NO_LABEL;
        }
        StoredFile file = find(own, number);
        return file == null ? 0 : file.cutTo(n);
    }

    public int remove(int subject, int number) throws IllegalArgumentException {
        requireSubject(subject);
        requireNumber(number);
        forgetSeen(subject);
        int own = labelOf[subject];
        if (own == NONE) {
            return HAS_NO_LABEL;
        }
        int place = placeOf(addressOf(own, number));
        if (place == NONE) {
            return 0;
        }
        files.remove(place);
        return 1;
    }

    public int read(int subject, int label, int number, int i) throws IllegalArgumentException {
        requireSubject(subject);
        requireFile(label, number);
        requireCell(i);
        forgetSeen(subject);
        int verdict = verdictOnReading(subject, label);
        if (verdict != ALLOWED) {
            return verdict;
        }
        StoredFile file = find(label, number);
        if (file == null || i >= file.count) {
            return 0;
        }
        show(subject, file.cells[i]);
        return 1;
    }

    public int size(int subject, int label, int number) throws IllegalArgumentException {
        requireSubject(subject);
        requireFile(label, number);
        forgetSeen(subject);
        int verdict = verdictOnReading(subject, label);
        if (verdict != ALLOWED) {
            return verdict;
        }
        StoredFile file = find(label, number);
        return file == null ? 0 : file.count;
    }

    public int there(int subject, int label, int number) throws IllegalArgumentException {
        requireSubject(subject);
        requireFile(label, number);
        forgetSeen(subject);
        int verdict = verdictOnReading(subject, label);
        if (verdict != ALLOWED) {
            return verdict;
        }
        return find(label, number) == null ? 0 : 1;
    }

    public int listed(int subject, int label, int number) throws IllegalArgumentException {
        requireSubject(subject);
        requireFile(label, number);
        forgetSeen(subject);
        int verdict = verdictOnReading(subject, label);
        if (verdict != ALLOWED) {
            return verdict;
        }
        showFilesIn(addressOf(label, number), subject);
        return seenCount[subject];
    }

    public int release(int subject, int label, int number, int to)
            throws IllegalArgumentException, UnsupportedOperationException {
        requireSubject(subject);
        requireFile(label, number);
        requireLabel(to);
        int answer = answerRelease(subject, label, number, to);
        if (answer == HOUSE_IS_FULL) {
            throw new UnsupportedOperationException("200 files are there");
        }
        // Only now: a call that throws leaves what was seen.
        forgetSeen(subject);
        return answer;
    }

    public int seen(int subject, int i) throws IllegalArgumentException {
        requireSubject(subject);
        return i >= 0 && i < seenCount[subject] ? seenBy[subject][i] : 0;
    }

    public int told(int label, int what) throws IllegalArgumentException {
        requireLabel(label);
        switch (what) {
            case 0:
                return usedBy(label);
            case 1:
                return spentBy[label];
            case 2:
                return quotaOf[label];
            case 3:
                return countFilesAt(label);
            default:
                throw new IllegalArgumentException("nothing such is told");
        }
    }

    private static void requireSubject(int subject) {
        if (subject < 0 || subject >= SUBJECTS) {
            throw new IllegalArgumentException("no subject");
        }
    }

    private static void requireLabel(int label) {
        if (label < 0 || label >= LABELS) {
            throw new IllegalArgumentException("no label");
        }
    }

    private static void requireNumber(int number) {
        if (number < 0 || number >= NUMBERS) {
            throw new IllegalArgumentException("no number of a file");
        }
    }

    private static void requireFile(int label, int number) {
        requireLabel(label);
        requireNumber(number);
    }

    private static void requireCell(int i) {
        if (i < 0 || i >= MOST_CELLS) {
            throw new IllegalArgumentException("no cell");
        }
    }

    private static void requireFolder(int folder) {
        if (folder != NONE && (folder < 0 || folder >= LABELS * NUMBERS)) {
            throw new IllegalArgumentException("no folder");
        }
    }

    private static void requireAtMost(int most, int amount) {
        if (amount < 0 || amount > most) {
            throw new IllegalArgumentException("no such amount");
        }
    }

    private static boolean mayFlow(int from, int to) {
        return secrecyOf(from) <= secrecyOf(to)
                && isWithin(secretsOf(from), secretsOf(to))
                && trustOf(from) >= trustOf(to)
                && isWithin(warrantsOf(to), warrantsOf(from));
    }

    private static int secrecyOf(int label) {
        return label & 3;
    }

    private static int secretsOf(int label) {
        return label >> 2 & 15;
    }

    private static int trustOf(int label) {
        return label >> 6 & 3;
    }

    private static int warrantsOf(int label) {
        return label >> 8 & 3;
    }

    private static boolean isWithin(int inner, int outer) {
        return (inner & ~outer) == 0;
    }

    private int verdictOnReading(int subject, int label) {
        int own = labelOf[subject];
        if (own == NONE) {
            return HAS_NO_LABEL;
        }
        return mayFlow(label, own) ? ALLOWED : MAY_NOT;
    }

    private int answerMake(int subject, int label, int number, int folder) {
        int own = labelOf[subject];
        if (own == NONE) {
            return HAS_NO_LABEL;
        }
        boolean folderFits = folder == NONE || mayFlow(labelOfAddress(folder), label);
        if (!mayFlow(own, label) || !folderFits) {
            return MAY_NOT;
        }
        int address = addressOf(label, number);
        return own == label ? makeOwn(own, address, folder) : makeAbove(own, address, folder);
    }

    private int makeOwn(int own, int address, int folder) {
        if (placeOf(address) != NONE) {
            return 0;
        }
        if (!hasRoom(own, 1)) {
            return OVER_QUOTA;
        }
        if (isFull()) {
            return HOUSE_IS_FULL;
        }
        store(new StoredFile(address, folder, false));
        return 1;
    }

    private int makeAbove(int own, int address, int folder) {
        if (!hasRoom(own, 1)) {
            return OVER_QUOTA;
        }
        if (placeOf(address) == NONE) {
            if (isFull()) {
                return HOUSE_IS_FULL;
            }
            store(new StoredFile(address, folder, true));
        }
        spentBy[own]++;
        return BLIND;
    }

    private int answerRelease(int subject, int label, int number, int to) {
        if (labelOf[subject] == NONE) {
            return HAS_NO_LABEL;
        }
        if (!isListed(listingOf(subject, label, to))) {
            return MAY_NOT;
        }
        StoredFile source = find(label, number);
        if (source == null) {
            return 0;
        }
        StoredFile target = find(to, number);
        int replaced = target == null ? 0 : target.use();
        if (!hasRoom(to, 1 + source.count - replaced)) {
            return OVER_QUOTA;
        }
        if (target == null) {
            if (isFull()) {
                return HOUSE_IS_FULL;
            }
            target = new StoredFile(addressOf(to, number), NONE, false);
            store(target);
        }
        target.becomeCopyOf(source);
        return 1;
    }

    private boolean hasRoom(int label, int more) {
        return usedBy(label) + more <= quotaOf[label];
    }

    private int usedBy(int label) {
        int used = spentBy[label];
        for (int place = 0; place < files.size(); place++) {
            StoredFile file = files.get(place);
            if (labelOfAddress(file.address) == label) {
                used += file.use();
            }
        }
        return used;
    }

    private int countFilesAt(int label) {
        int count = 0;
        for (int place = 0; place < files.size(); place++) {
            if (labelOfAddress(files.get(place).address) == label) {
                count++;
            }
        }
        return count;
    }

    private static int addressOf(int label, int number) {
        return NUMBERS * label + number;
    }

    private static int labelOfAddress(int address) {
        return address / NUMBERS;
    }

    private boolean isFull() {
        return files.size() >= MOST_FILES;
    }

    private int placeOf(int address) {
        for (int place = 0; place < files.size(); place++) {
            if (files.get(place).address == address) {
                return place;
            }
        }
        return NONE;
    }

    private StoredFile find(int label, int number) {
        int place = placeOf(addressOf(label, number));
        return place == NONE ? null : files.get(place);
    }

    private void store(StoredFile file) {
        int place = files.size();
        while (place > 0 && files.get(place - 1).address > file.address) {
            place--;
        }
        files.add(place, file);
    }

    private static int listingOf(int subject, int from, int to) {
        return (subject * LABELS + from) * LABELS + to;
    }

    private boolean isListed(int listing) {
        for (int k = 0; k < listingCount; k++) {
            if (listings[k] == listing) {
                return true;
            }
        }
        return false;
    }

    private void addListing(int listing) {
        listings[listingCount] = listing;
        listingCount++;
    }

    private void dropListing(int listing) {
        int kept = 0;
        for (int k = 0; k < listingCount; k++) {
            if (listings[k] != listing) {
                listings[kept] = listings[k];
                kept++;
            }
        }
        listingCount = kept;
    }

    private void forgetSeen(int subject) {
        seenCount[subject] = 0;
    }

    private void show(int subject, int value) {
        if (seenCount[subject] < MOST_FILES) {
            seenBy[subject][seenCount[subject]] = value;
            seenCount[subject]++;
        }
    }

    private void showFilesIn(int folder, int subject) {
        int own = labelOf[subject];
        for (int place = 0; place < files.size(); place++) {
            StoredFile file = files.get(place);
            if (file.folder == folder && mayFlow(labelOfAddress(file.address), own)) {
                show(subject, file.address);
            }
        }
    }

    private static final class StoredFile {
        final int address;
        final int folder;
        final int[] cells = new int[MOST_CELLS];
        int count = 0;
        boolean isGift;
        /** Bit i is set where cell i is a gift. */
        int giftCells = 0;

        StoredFile(int address, int folder, boolean isGift) {
            this.address = address;
            this.folder = folder;
            this.isGift = isGift;
        }

        /** Gifts are paid where they came from, so they cost the file's own label nothing. */
        int use() {
            return (isGift ? 0 : 1) + count - Integer.bitCount(giftCells);
        }

        /** A full file stays as it is: a giver must not learn that it is full. */
        void append(int value, boolean asGift) {
            if (count >= MOST_CELLS) {
                return;
            }
            cells[count] = value;
            if (asGift) {
                giftCells |= 1 << count;
            }
            count++;
        }

        int cutTo(int n) {
            if (n >= count) {
                return 0;
            }
            int gone = count - n;
            count = n;
            giftCells &= (1 << n) - 1;
            return gone;
        }

        void becomeCopyOf(StoredFile source) {
            System.arraycopy(source.cells, 0, cells, 0, source.count);
            count = source.count;
            isGift = false;
            giftCells = 0;
        }
    }
}
