import java.util.ArrayList;
import java.util.Arrays;
import java.util.HashMap;
import java.util.HashSet;
import java.util.List;
import java.util.Map;
import java.util.Set;
import java.util.TreeMap;

/**
 * Long runs of calls, the same each time, answered alike by the program and by a model that is held
 * as the document's words go: cells know whether they are gifts, and nothing is counted ahead.
 */
final class ModelTest {
    private static final int RUNS = 400;
    private static final int CALLS = 500;
    private static final int ILLEGAL = -1000;
    private static final int FULL = -2000;
    /** Few labels, so that files meet: some flow to others, some do not. */
    private static final int[] LABELS = {Check.LOW, Check.MID, Check.HIGH, Check.ASIDE,
        Check.label(1, 3, 1, 1), Check.label(0, 0, 3, 2)};

    public static void main(String[] args) {
        for (int run = 0; run < RUNS; run++) {
            Check.seed(run);
            compare(run);
        }
        Check.close("the model");
    }

    private static void compare(int run) {
        TierHouse house = new TierHouse();
        Model model = new Model();
        for (int k = 0; k < CALLS; k++) {
            int[] call = k < LABELS.length ? new int[] {0, k, LABELS[k], 0, 0} : run % 4 == 3 ? crowding(model, k) : any(model);
            Check.same("run " + run + ", call " + k + " " + Arrays.toString(call),
                ask(house, call), model.ask(call));
        }
    }

    private static boolean seldom() {
        return Check.below(80) == 0;
    }

    private static int someLabel() {
        return seldom() ? Check.below(2) * 1025 - 1 : LABELS[Check.below(LABELS.length)];
    }

    private static int someNumber() {
        return seldom() ? Check.below(2) * 17 - 1 : Check.below(2);
    }

    private static int someSubject() {
        return seldom() ? Check.below(18) - 1 : Check.below(LABELS.length);
    }

    private static int someFolder() {
        if (Check.below(2) == 0) {
            return TierHouse.NONE;
        }
        return seldom() ? Check.below(2) * 16386 - 2 : 16 * LABELS[Check.below(2)] + Check.below(2);
    }

    private static int someCell() {
        return seldom() ? Check.below(27) - 1 : Check.below(4) == 0 ? Check.below(24) : Check.below(5);
    }

    private static int someQuota() {
        return seldom() ? Check.below(2) * 1002 - 1 : Check.below(16) * 5;
    }

    /** The kinds are numbered as in ask(); those that fill the house come more often. */
    private static int[] any(Model model) {
        int kind = Check.below(36);
        int subject = someSubject();
        if (kind == 8 && Check.below(4) != 0) {
            kind = 7;
        }
        switch (kind < 16 ? kind : kind < 28 ? 5 : kind < 31 ? 9 : kind < 34 ? 13 : 4) {
            case 0: return new int[] {0, subject, someLabel(), 0, 0};
            case 1: return new int[] {1, someLabel(), someQuota(), 0, 0};
            case 2: return new int[] {2, subject, LABELS[Check.below(3)], LABELS[Check.below(3)], Check.below(5) == 0 ? 0 : 1};
            case 3: return new int[] {3, someLabel(), someLabel(), 0, 0};
            case 4: return new int[] {4, subject, someLabel(), someNumber(), someFolder()};
            case 5: return setting(model, subject, someNumber());
            case 6: return new int[] {6, subject, someLabel(), someNumber(), Check.below(1000)};
            case 7: return new int[] {7, subject, someNumber(), seldom() ? Check.below(2) * 26 - 1 : Check.below(40) % 25, 0};
            case 8: return new int[] {8, subject, someNumber(), 0, 0};
            case 13: return new int[] {13, subject, LABELS[Check.below(3)], someNumber(), seldom() ? someLabel() : LABELS[Check.below(3)]};
            case 14: return new int[] {14, subject, Check.below(5) - 1, 0, 0};
            case 15: return new int[] {15, someLabel(), seldom() ? Check.below(2) * 5 - 1 : Check.below(4), 0, 0};
            default: return new int[] {kind > 15 ? 9 : kind, subject, someLabel(), someNumber(), someCell()};
        }
    }

    /** Mostly just behind the last cell, so that files grow. */
    private static int[] setting(Model model, int subject, int number) {
        int i = Check.below(3) == 0 ? someCell() : model.nextCell(subject, number);
        return new int[] {5, subject, number, i, Check.below(1000)};
    }

    /** First more listings and more files than there may be, then calls round these bounds. */
    private static int[] crowding(Model model, int k) {
        if (k < 12) {
            return new int[] {1, LABELS[k % LABELS.length], 1000, 0, 0};
        }
        if (k < 48) {
            int j = k - 12;
            return new int[] {2, j % 6, LABELS[j / 6 % 3], LABELS[(j / 6 % 3 + 1 + j / 18) % 3], 1};
        }
        if (k < 250) {
            return crowdingMake(k - 48);
        }
        switch (Check.below(9)) {
            case 0: return any(model);
            case 1: return new int[] {2, Check.below(6), LABELS[Check.below(3)], LABELS[Check.below(3)], Check.below(2)};
            case 2: return new int[] {8, Check.below(6), Check.below(16), 0, 0};
            case 3: return new int[] {12, 2 + Check.below(2), Check.LOW, 0, 0};
            case 4: return new int[] {14, 2, Check.below(200), 0, 0};
            case 5: return new int[] {9, 2, LABELS[Check.below(3)], Check.below(16), 0};
            case 6: return crowdingMake(Check.below(240));
            default: return new int[] {13, Check.below(6), LABELS[Check.below(3)], Check.below(16), LABELS[Check.below(3)]};
        }
    }

    private static int[] crowdingMake(int place) {
        int label = place < 48 ? LABELS[place / 16] : Check.fillLabel(place) | 3;
        return new int[] {4, 0, label, place % 16, 16 * Check.LOW};
    }

    private static int ask(TierHouse x, int[] c) {
        try {
            switch (c[0]) {
                case 0: return x.subject(c[1], c[2]) ? 1 : 0;
                case 1: return x.quota(c[1], c[2]);
                case 2: return x.list(c[1], c[2], c[3], c[4] == 1) ? 1 : 0;
                case 3: return x.flows(c[1], c[2]) ? 1 : 0;
                case 4: return x.make(c[1], c[2], c[3], c[4]);
                case 5: return x.set(c[1], c[2], c[3], c[4]);
                case 6: return x.give(c[1], c[2], c[3], c[4]);
                case 7: return x.trim(c[1], c[2], c[3]);
                case 8: return x.remove(c[1], c[2]);
                case 9: return x.read(c[1], c[2], c[3], c[4]);
                case 10: return x.size(c[1], c[2], c[3]);
                case 11: return x.there(c[1], c[2], c[3]);
                case 12: return x.listed(c[1], c[2], c[3]);
                case 13: return x.release(c[1], c[2], c[3], c[4]);
                case 14: return x.seen(c[1], c[2]);
                default: return x.told(c[1], c[2]);
            }
        } catch (IllegalArgumentException e) {
            return ILLEGAL;
        } catch (UnsupportedOperationException e) {
            return FULL;
        }
    }

    private record Cell(int value, boolean gift) {
    }

    private static final class Paper {
        final int folder;
        boolean gift;
        List<Cell> cells = new ArrayList<>();

        Paper(int folder, boolean gift) {
            this.folder = folder;
            this.gift = gift;
        }
    }

    private static final class Model {
        private final Map<Integer, Integer> labels = new HashMap<>();
        private final Map<Integer, Integer> quotas = new HashMap<>();
        private final Map<Integer, Integer> spent = new HashMap<>();
        private final Set<List<Integer>> listings = new HashSet<>();
        private final TreeMap<Integer, Paper> papers = new TreeMap<>();
        private final Map<Integer, List<Integer>> sights = new HashMap<>();

        int ask(int[] c) {
            switch (c[0]) {
                case 0: return !subject(c[1]) || !label(c[2]) ? ILLEGAL : labels.putIfAbsent(c[1], c[2]) == null ? 1 : 0;
                case 1: return quota(c[1], c[2]);
                case 2: return list(c[1], c[2], c[3], c[4] == 1);
                case 3: return !label(c[1]) || !label(c[2]) ? ILLEGAL : Check.mayFlow(c[1], c[2]) ? 1 : 0;
                case 14: return !subject(c[1]) ? ILLEGAL : sight(c[1], c[2]);
                case 15: return !label(c[1]) || c[2] < 0 || c[2] > 3 ? ILLEGAL : told(c[1], c[2]);
                default: return request(c);
            }
        }

        int nextCell(int subject, int number) {
            Paper paper = papers.get(16 * labels.getOrDefault(subject, 0) + number);
            return paper == null ? 0 : paper.cells.size();
        }

        private int request(int[] c) {
            boolean atOwn = c[0] == 5 || c[0] == 7 || c[0] == 8;
            if (!subject(c[1]) || !number(c[atOwn ? 2 : 3]) || !atOwn && !label(c[2]) || !lastFits(c)) {
                return ILLEGAL;
            }
            List<Integer> sight = new ArrayList<>();
            Integer own = labels.get(c[1]);
            int answer = own == null ? -1 : answer(c, own, sight);
            if (answer != FULL) {
                sights.put(c[1], sight);
            }
            return answer;
        }

        private boolean lastFits(int[] c) {
            switch (c[0]) {
                case 4: return c[4] >= -1 && c[4] < 16384;
                case 5: return c[3] >= 0 && c[3] < 24;
                case 7: return c[3] >= 0 && c[3] <= 24;
                case 9: return c[4] >= 0 && c[4] < 24;
                case 13: return label(c[4]);
                default: return true;
            }
        }

        private int answer(int[] c, int own, List<Integer> sight) {
            if (c[0] >= 9 && c[0] <= 12 && !Check.mayFlow(c[2], own)) {
                return -2;
            }
            Paper paper = papers.get(16 * c[2] + c[3]);
            switch (c[0]) {
                case 4: return make(own, c[2], 16 * c[2] + c[3], c[4]);
                case 5: return set(own, papers.get(16 * own + c[2]), c[3], c[4]);
                case 6: return give(own, c[2], paper, c[4]);
                case 7: return trim(papers.get(16 * own + c[2]), c[3]);
                case 8: return papers.remove(16 * own + c[2]) == null ? 0 : 1;
                case 9: return read(paper, c[4], sight);
                case 10: return paper == null ? 0 : paper.cells.size();
                case 11: return paper == null ? 0 : 1;
                case 12: return listed(own, 16 * c[2] + c[3], sight);
                default: return release(c[1], c[2], c[3], c[4]);
            }
        }

        private int make(int own, int label, int key, int folder) {
            if (!Check.mayFlow(own, label) || folder != -1 && !Check.mayFlow(folder / 16, label)) {
                return -2;
            }
            boolean there = papers.containsKey(key);
            if (there && label == own) {
                return 0;
            }
            if (used(own) >= quotaOf(own)) {
                return -3;
            }
            if (!there && papers.size() == 200) {
                return FULL;
            }
            if (!there) {
                papers.put(key, new Paper(folder, label != own));
            }
            if (label != own) {
                spent.merge(own, 1, Integer::sum);
            }
            return label == own ? 1 : 2;
        }

        private int set(int own, Paper paper, int i, int value) {
            if (paper == null || i > paper.cells.size()) {
                return 0;
            }
            if (i < paper.cells.size()) {
                paper.cells.set(i, new Cell(value, paper.cells.get(i).gift));
                return 1;
            }
            if (used(own) >= quotaOf(own)) {
                return -3;
            }
            paper.cells.add(new Cell(value, false));
            return 1;
        }

        private int give(int own, int label, Paper paper, int value) {
            if (own == label || !Check.mayFlow(own, label)) {
                return -2;
            }
            if (used(own) >= quotaOf(own)) {
                return -3;
            }
            spent.merge(own, 1, Integer::sum);
            if (paper != null && paper.cells.size() < 24) {
                paper.cells.add(new Cell(value, true));
            }
            return 2;
        }

        private int trim(Paper paper, int n) {
            int gone = 0;
            while (paper != null && paper.cells.size() > n) {
                paper.cells.remove(paper.cells.size() - 1);
                gone++;
            }
            return gone;
        }

        private int read(Paper paper, int i, List<Integer> sight) {
            if (paper == null || i >= paper.cells.size()) {
                return 0;
            }
            sight.add(paper.cells.get(i).value);
            return 1;
        }

        private int listed(int own, int folder, List<Integer> sight) {
            papers.forEach((key, paper) -> {
                if (paper.folder == folder && Check.mayFlow(key / 16, own)) {
                    sight.add(key);
                }
            });
            return sight.size();
        }

        private int release(int subject, int label, int number, int to) {
            if (!listings.contains(List.of(subject, label, to))) {
                return -2;
            }
            Paper source = papers.get(16 * label + number);
            if (source == null) {
                return 0;
            }
            Paper old = papers.get(16 * to + number);
            Paper copy = new Paper(old == null ? -1 : old.folder, false);
            for (Cell cell : source.cells) {
                copy.cells.add(new Cell(cell.value, false));
            }
            papers.put(16 * to + number, copy);
            int answer = used(to) > quotaOf(to) ? -3 : papers.size() > 200 ? FULL : 1;
            if (answer != 1 && old == null) {
                papers.remove(16 * to + number);
            } else if (answer != 1) {
                papers.put(16 * to + number, old);
            }
            return answer;
        }

        private int quota(int label, int cells) {
            if (!label(label) || cells < 0 || cells > 1000) {
                return ILLEGAL;
            }
            int was = quotaOf(label);
            quotas.put(label, cells);
            return was;
        }

        private int list(int subject, int from, int to, boolean listed) {
            if (!subject(subject) || !label(from) || !label(to) || from == to) {
                return ILLEGAL;
            }
            List<Integer> listing = List.of(subject, from, to);
            boolean was = listings.contains(listing);
            if (listed && !was && listings.size() == 32) {
                return FULL;
            }
            if (listed) {
                listings.add(listing);
            } else {
                listings.remove(listing);
            }
            return was ? 1 : 0;
        }

        private int told(int label, int what) {
            switch (what) {
                case 0: return used(label);
                case 1: return spent.getOrDefault(label, 0);
                case 2: return quotaOf(label);
                default: return papers.subMap(16 * label, 16 * label + 16).size();
            }
        }

        private int used(int label) {
            int used = spent.getOrDefault(label, 0);
            for (Paper paper : papers.subMap(16 * label, 16 * label + 16).values()) {
                used += paper.gift ? 0 : 1;
                for (Cell cell : paper.cells) {
                    used += cell.gift ? 0 : 1;
                }
            }
            return used;
        }

        private int quotaOf(int label) {
            return quotas.getOrDefault(label, 40);
        }

        private int sight(int subject, int i) {
            List<Integer> sight = sights.getOrDefault(subject, List.of());
            return i >= 0 && i < sight.size() ? sight.get(i) : 0;
        }

        private static boolean subject(int subject) {
            return subject >= 0 && subject < 16;
        }

        private static boolean label(int label) {
            return label >= 0 && label < 1024;
        }

        private static boolean number(int number) {
            return number >= 0 && number < 16;
        }
    }
}
