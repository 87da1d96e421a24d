import java.util.Arrays;

/** A strand of bases that folds on itself, its structures and their energies. */
public final class FoldedStrand {
    public static final int BAD = -1;
    public static final int FULL = -2;

    private static final int MOST_TYPED = 20;
    private static final int MOST_DELTA = 300;
    private static final int FIRST_FAULT = -10;

    private final Strand strand;
    private final Folds folds;
    private final NearList nearList;
    private final char[] typed;
    private int typedCount;
    private Structure structure;
    // A reading that fails must leave THE STRUCTURE alone, so readings go here and change places with it.
    private Structure draft;

    public FoldedStrand() {
        strand = new Strand();
        Loops loops = new Loops(strand);
        folds = new Folds(strand, loops);
        nearList = new NearList(strand, loops, folds);
        structure = new Structure(strand, loops);
        draft = new Structure(strand, loops);
        typed = new char[MOST_TYPED];
        typedCount = 0;
    }

    public boolean base(char c) {
        if (!strand.append(c)) {
            return false;
        }
        folds.extend();
        forgetStructures();
        return true;
    }

    public int clear() {
        int gone = strand.removeAll();
        forgetStructures();
        return gone;
    }

    public int most() {
        return folds.mostPairs();
    }

    public int least() {
        return folds.leastEnergy();
    }

    public int ways() {
        return folds.structureCount();
    }

    public int list(int delta) {
        if (delta < 0 || delta > MOST_DELTA) {
            return BAD;
        }
        return nearList.collect(delta) ? nearList.size() : FULL;
    }

    public int energyOf(int k) {
        return nearList.has(k) ? nearList.energyAt(k) : 0;
    }

    public int at(int k, int i) {
        return nearList.has(k) && strand.has(i) ? nearList.character(k, i) : BAD;
    }

    public int take(int k) {
        if (!nearList.has(k)) {
            return BAD;
        }
        draft.restart();
        for (int i = 0; i < strand.size(); i++) {
            draft.add(nearList.character(k, i));
        }
        return adoptDraft();
    }

    public boolean type(char c) {
        if (c < 32 || c > 126 || typedCount >= MOST_TYPED) {
            return false;
        }
        typed[typedCount] = c;
        typedCount++;
        return true;
    }

    public int read() {
        int length = typedCount;
        typedCount = 0;
        draft.restart();
        for (int i = 0; i < length; i++) {
            if (!draft.add(typed[i])) {
                return FIRST_FAULT - i;
            }
        }
        return draft.isWhole() ? adoptDraft() : FIRST_FAULT - length;
    }

    public int energy() {
        return structure.totalEnergy();
    }

    public int partner(int i) {
        return strand.has(i) && structure.isPaired(i) ? structure.mateOf(i) : BAD;
    }

    public int loop(int i) {
        return strand.has(i) && structure.opensAt(i) ? structure.loopEnergy(i) : 0;
    }

    private void forgetStructures() {
        nearList.forget();
        structure.restart();
    }

    private int adoptDraft() {
        Structure former = structure;
        structure = draft;
        draft = former;
        return structure.pairCount();
    }

    /** The bases, and which of their places can pair. */
    private static final class Strand {
        static final int MOST = 18;
        static final int NEAREST = 4;
        private static final char[] LETTERS = {'A', 'C', 'G', 'U'};
        private static final int FIRST_WEAK = 2;
        // The kind of a pair of bases: the first one's row, the second one's column, in the order of LETTERS.
        private static final int[] KINDS = {
            -1, -1, -1, 4,
            -1, -1, 0, -1,
            -1, 1, -1, 2,
            5, -1, 3, -1
        };

        private final int[] bases = new int[MOST];
        private int size = 0;

        boolean append(char c) {
            int number = numberOf(c);
            if (number < 0 || size >= MOST) {
                return false;
            }
            bases[size] = number;
            size++;
            return true;
        }

        int removeAll() {
            int gone = size;
            size = 0;
            return gone;
        }

        int size() {
            return size;
        }

        boolean has(int place) {
            return place >= 0 && place < size;
        }

        boolean canPair(int i, int j) {
            return j - i >= NEAREST && kind(i, j) >= 0;
        }

        int kind(int first, int second) {
            return KINDS[bases[first] * LETTERS.length + bases[second]];
        }

        int ifWeak(int i, int j, int more) {
            return kind(i, j) >= FIRST_WEAK ? more : 0;
        }

        boolean spells(int from, int to, char[] letters) {
            if (to - from + 1 != letters.length) {
                return false;
            }
            for (int p = 0; p < letters.length; p++) {
                if (LETTERS[bases[from + p]] != letters[p]) {
                    return false;
                }
            }
            return true;
        }

        private static int numberOf(char c) {
            for (int number = 0; number < LETTERS.length; number++) {
                if (LETTERS[number] == c) {
                    return number;
                }
            }
            return -1;
        }
    }

    /** The energies of loops, each as the document's table tells it. */
    private static final class Loops {
        static final int MULTI_PAIR = 4;
        static final int MULTI_PLACE = 1;
        static final int WEAK_END = 5;
        private static final int MULTI_START = 34;
        private static final int WEAK_INTERIOR = 7;
        private static final int SHORTEST_HAIRPIN = 3;
        private static final int[] HAIRPINS = {54, 56, 57, 54, 60, 55};
        private static final int LONG_HAIRPIN = 64;
        private static final char[] FIRM_HAIRPIN = {'C', 'U', 'U', 'C', 'G', 'G'};
        private static final int FIRM_HAIRPIN_ENERGY = 26;
        private static final int KIND_COUNT = 6;
        private static final int[] STACKS = {
            -24, -33, -21, -14, -21, -21,
            -33, -34, -25, -15, -22, -24,
            -21, -25, 13, -5, -14, -13,
            -14, -15, -5, 3, -6, -10,
            -21, -22, -14, -6, -11, -9,
            -21, -24, -13, -10, -9, -13
        };
        private static final int SHORTEST_INTERIOR = 2;
        private static final int[] INTERIORS = {5, 16, 11, 20};

        private final Strand strand;

        Loops(Strand strand) {
            this.strand = strand;
        }

        /** The loop of a pair with no pair within. */
        int hairpin(int i, int j) {
            if (strand.spells(i, j, FIRM_HAIRPIN)) {
                return FIRM_HAIRPIN_ENERGY;
            }
            int row = j - i - 1 - SHORTEST_HAIRPIN;
            int energy = row >= 0 && row < HAIRPINS.length ? HAIRPINS[row] : LONG_HAIRPIN;
            return energy + strand.ifWeak(i, j, WEAK_END);
        }

        /** The loop of the pair i, j with the one pair k, l directly within. */
        int withOne(int i, int j, int k, int l) {
            int before = k - i - 1;
            int behind = j - l - 1;
            if (before == 0 || behind == 0) {
                return stackOrBulge(before + behind, stack(i, j, k, l));
            }
            return interior(before, behind)
                + strand.ifWeak(i, j, WEAK_INTERIOR) + strand.ifWeak(k, l, WEAK_INTERIOR);
        }

        /** What the pair i, j adds to its loop when that has two or more pairs directly within. */
        int multiClosing(int i, int j) {
            return MULTI_START + MULTI_PAIR + strand.ifWeak(i, j, WEAK_END);
        }

        /** What a pair directly within such a loop adds to it. */
        int multiBranch(int k, int l) {
            return MULTI_PAIR + strand.ifWeak(k, l, WEAK_END);
        }

        private int stack(int i, int j, int k, int l) {
            return STACKS[strand.kind(i, j) * KIND_COUNT + strand.kind(l, k)];
        }

        private static int stackOrBulge(int unpaired, int stack) {
            switch (unpaired) {
                case 0: return stack;
                case 1: return 38 + stack;
                case 2: return 28;
                case 3: return 32;
                default: return 20 + 4 * unpaired;
            }
        }

        private static int interior(int before, int behind) {
            int unpaired = before + behind;
            int row = unpaired - SHORTEST_INTERIOR;
            int energy = row >= 0 && row < INTERIORS.length ? INTERIORS[row] : 15 + unpaired;
            return energy + Math.min(30, 6 * Math.abs(before - behind));
        }
    }

    /**
     * A row of neighbouring places of one loop that are yet to be filled with pairs, or of those outside all pairs.
     * Such a row from place i up to, but without, place e is named i, e.
     */
    private static final class Region {
        // Far above every energy, so that no sum with it comes near a limit, and far below an overflow.
        static final int IMPOSSIBLE = 1000000;

        final int perPlace;
        final int perPair;
        final int[][] leastEnergies = new int[Strand.MOST + 1][Strand.MOST + 1];
        private final Region next;

        /** next is what the rest is when one pair stands; null: no pair is needed, and the rest is the same. */
        Region(int perPlace, int perPair, Region next) {
            this.perPlace = perPlace;
            this.perPair = perPair;
            this.next = next;
            for (int i = 0; i <= Strand.MOST; i++) {
                leastEnergies[i][i] = next == null ? 0 : IMPOSSIBLE;
            }
        }

        boolean mayBeUnpaired() {
            return next == null;
        }

        Region afterPair() {
            return next == null ? this : next;
        }
    }

    /**
     * Least energies and counts for every part of the strand. A part's answers hang on its own bases alone, so a
     * new base at the end leaves all former ones as they are.
     */
    private static final class Folds {
        final Region outside;
        final Region twoBranches;
        final int[][] pairEnergies = new int[Strand.MOST][Strand.MOST];
        private final Region oneBranch;
        private final Region anyBranches;
        private final int[][] counts = new int[Strand.MOST + 1][Strand.MOST + 1];
        private final int[][] pairs = new int[Strand.MOST + 1][Strand.MOST + 1];
        private final Strand strand;
        private final Loops loops;

        Folds(Strand strand, Loops loops) {
            this.strand = strand;
            this.loops = loops;
            outside = new Region(0, 0, null);
            anyBranches = new Region(Loops.MULTI_PLACE, Loops.MULTI_PAIR, null);
            oneBranch = new Region(Loops.MULTI_PLACE, Loops.MULTI_PAIR, anyBranches);
            twoBranches = new Region(Loops.MULTI_PLACE, Loops.MULTI_PAIR, oneBranch);
            for (int i = 0; i <= Strand.MOST; i++) {
                counts[i][i] = 1;
            }
        }

        int mostPairs() {
            return pairs[0][strand.size()];
        }

        int leastEnergy() {
            return outside.leastEnergies[0][strand.size()];
        }

        int structureCount() {
            return counts[0][strand.size()];
        }

        /** Works out all parts that end with the strand's last base. */
        void extend() {
            int end = strand.size();
            for (int i = end - 1; i >= 0; i--) {
                pairEnergies[i][end - 1] = strand.canPair(i, end - 1) ? leastOfPair(i, end - 1) : Region.IMPOSSIBLE;
            }
            for (int i = end - 1; i >= 0; i--) {
                countPart(i, end);
                fillRegion(outside, i, end);
                fillRegion(anyBranches, i, end);
                fillRegion(oneBranch, i, end);
                fillRegion(twoBranches, i, end);
            }
        }

        private void countPart(int start, int end) {
            int last = end - 1;
            int count = counts[start][last];
            int best = pairs[start][last];
            for (int k = start; k <= last - Strand.NEAREST; k++) {
                if (strand.canPair(k, last)) {
                    count += counts[start][k] * counts[k + 1][last];
                    best = Math.max(best, pairs[start][k] + 1 + pairs[k + 1][last]);
                }
            }
            counts[start][end] = count;
            pairs[start][end] = best;
        }

        private void fillRegion(Region region, int start, int end) {
            int last = end - 1;
            int[][] rest = region.afterPair().leastEnergies;
            int best = region.leastEnergies[start][last] + region.perPlace;
            for (int k = start; k <= last - Strand.NEAREST; k++) {
                if (strand.canPair(k, last)) {
                    best = Math.min(best, rest[start][k] + branchEnergy(region, k, last));
                }
            }
            region.leastEnergies[start][end] = best;
        }

        /** What the pair i, j and all within it add at least to the region that it stands in. */
        int branchEnergy(Region region, int i, int j) {
            return region.perPair + strand.ifWeak(i, j, Loops.WEAK_END) + pairEnergies[i][j];
        }

        private int leastOfPair(int i, int j) {
            int best = Math.min(loops.hairpin(i, j), leastWithMany(i, j));
            for (int l = j - 1; l - i > Strand.NEAREST; l--) {
                for (int k = i + 1; k <= l - Strand.NEAREST; k++) {
                    if (strand.canPair(k, l)) {
                        best = Math.min(best, loops.withOne(i, j, k, l) + pairEnergies[k][l]);
                    }
                }
            }
            return best;
        }

        int leastWithMany(int i, int j) {
            return loops.multiClosing(i, j) + twoBranches.leastEnergies[i + 1][j];
        }
    }

    /**
     * THE LIST. A structure is kept as one number: its energy above its text, two bits a place, so that the order of
     * the numbers is the list's order.
     */
    private static final class NearList {
        private static final int MOST = 150;
        private static final int TEXT_BITS = 2 * Strand.MOST;
        private static final int OPENING = 0;
        private static final int CLOSING = 1;
        private static final int UNPAIRED = 2;
        // A level fills a pair or a region; 18 places hold 7 pairs and so need fewer than 20 levels.
        private static final int DEEPEST = 40;

        private final long[] keys = new long[MOST];
        private int count = 0;
        private boolean tooMany = false;
        private int limit = 0;
        // The regions that a search has yet to fill, the next one last.
        private final Region[] regions = new Region[DEEPEST];
        private final int[] starts = new int[DEEPEST];
        private final int[] ends = new int[DEEPEST];
        private final Strand strand;
        private final Loops loops;
        private final Folds folds;

        NearList(Strand strand, Loops loops, Folds folds) {
            this.strand = strand;
            this.loops = loops;
            this.folds = folds;
            // Never null, whatever a search looks at.
            for (int number = 0; number < DEEPEST; number++) {
                regions[number] = folds.outside;
            }
        }

        int size() {
            return count;
        }

        boolean has(int k) {
            return k >= 0 && k < count;
        }

        void forget() {
            count = 0;
        }

        int energyAt(int k) {
            return (int) (keys[k] >> TEXT_BITS);
        }

        char character(int k, int place) {
            int sign = (int) (keys[k] >> shiftOf(place)) & 3;
            return sign == OPENING ? '(' : sign == CLOSING ? ')' : '.';
        }

        /** False, with an empty list, when there are too many. */
        boolean collect(int delta) {
            count = 0;
            tooMany = false;
            limit = folds.leastEnergy() + delta;
            setRegion(0, folds.outside, 0, strand.size());
            fillRegions(1, folds.leastEnergy(), textWithoutPairs(), 0);
            if (tooMany) {
                count = 0;
            }
            return !tooMany;
        }

        /**
         * Fills the open regions in all ways that stay within the limit. energy is the least that can come of what
         * stands already. The open regions are the same again at the end.
         */
        private void fillRegions(int open, int energy, long text, int depth) {
            if (tooMany || energy > limit || depth > DEEPEST) {
                return;
            }
            if (open <= 0) {
                insert(energy, text);
                return;
            }
            Region region = regions[open - 1];
            int start = starts[open - 1];
            int end = ends[open - 1];
            int others = energy - region.leastEnergies[start][end];
            if (region.mayBeUnpaired()) {
                fillRegions(open - 1, others + region.perPlace * (end - start), text, depth + 1);
            }
            for (int j = end - 1; j - start >= Strand.NEAREST; j--) {
                int othersAndBehind = others + region.perPlace * (end - 1 - j);
                for (int i = start; i <= j - Strand.NEAREST; i++) {
                    if (strand.canPair(i, j)) {
                        setRegion(open - 1, region.afterPair(), start, i);
                        int before = region.afterPair().leastEnergies[start][i];
                        int sum = othersAndBehind + before + folds.branchEnergy(region, i, j);
                        fillPair(i, j, open, sum, withPair(text, i, j), depth + 1);
                    }
                }
            }
            setRegion(open - 1, region, start, end);
        }

        /** Fills the inside of the pair i, j in all ways that stay within the limit, and then the open regions. */
        private void fillPair(int i, int j, int open, int energy, long text, int depth) {
            if (tooMany || energy > limit || depth > DEEPEST) {
                return;
            }
            int others = energy - folds.pairEnergies[i][j];
            fillRegions(open, others + loops.hairpin(i, j), text, depth + 1);
            for (int l = j - 1; l - i > Strand.NEAREST; l--) {
                for (int k = i + 1; k <= l - Strand.NEAREST; k++) {
                    if (strand.canPair(k, l)) {
                        int sum = others + loops.withOne(i, j, k, l) + folds.pairEnergies[k][l];
                        fillPair(k, l, open, sum, withPair(text, k, l), depth + 1);
                    }
                }
            }
            if (open < DEEPEST) {
                setRegion(open, folds.twoBranches, i + 1, j);
                fillRegions(open + 1, others + folds.leastWithMany(i, j), text, depth + 1);
            }
        }

        private void setRegion(int number, Region region, int start, int end) {
            regions[number] = region;
            starts[number] = start;
            ends[number] = end;
        }

        private void insert(int energy, long text) {
            if (count >= MOST) {
                tooMany = true;
                return;
            }
            long key = ((long) energy << TEXT_BITS) + text;
            int position = count;
            while (position > 0 && keys[position - 1] > key) {
                keys[position] = keys[position - 1];
                position--;
            }
            keys[position] = key;
            count++;
        }

        private long textWithoutPairs() {
            long text = 0;
            for (int place = 0; place < strand.size(); place++) {
                text += (long) UNPAIRED << shiftOf(place);
            }
            return text;
        }

        private static long withPair(long text, int i, int j) {
            return text - ((long) (UNPAIRED - OPENING) << shiftOf(i)) - ((long) (UNPAIRED - CLOSING) << shiftOf(j));
        }

        // The first place weighs most, as texts differ first by their first characters.
        private static int shiftOf(int place) {
            return 2 * (Strand.MOST - 1 - place);
        }
    }

    /** A structure that grows by the characters of its text. */
    private static final class Structure {
        private static final int UNPAIRED = -1;

        private final int[] mates = new int[Strand.MOST];
        // The places of the ( that are yet without their ).
        private final int[] opens = new int[Strand.MOST];
        private int openCount;
        private int length;
        private int pairs;
        private final Strand strand;
        private final Loops loops;

        Structure(Strand strand, Loops loops) {
            this.strand = strand;
            this.loops = loops;
            restart();
        }

        void restart() {
            Arrays.fill(mates, UNPAIRED);
            openCount = 0;
            length = 0;
            pairs = 0;
        }

        /** False when the text of no structure has this character here. */
        boolean add(char c) {
            if (length >= strand.size()) {
                return false;
            }
            if (c == '(') {
                opens[openCount] = length;
                openCount++;
            } else if (c == ')') {
                if (!closeLast()) {
                    return false;
                }
            } else if (c != '.') {
                return false;
            }
            length++;
            return true;
        }

        private boolean closeLast() {
            if (openCount <= 0) {
                return false;
            }
            int first = opens[openCount - 1];
            if (!strand.canPair(first, length)) {
                return false;
            }
            openCount--;
            mates[first] = length;
            mates[length] = first;
            pairs++;
            return true;
        }

        boolean isWhole() {
            return length == strand.size() && openCount == 0;
        }

        int pairCount() {
            return pairs;
        }

        boolean isPaired(int i) {
            return mates[i] != UNPAIRED;
        }

        int mateOf(int i) {
            return mates[i];
        }

        boolean opensAt(int i) {
            return mates[i] > i;
        }

        int totalEnergy() {
            int sum = 0;
            int reached = -1;
            for (int i = 0; i < strand.size(); i++) {
                if (opensAt(i)) {
                    sum += loopEnergy(i);
                    if (i > reached) {
                        sum += strand.ifWeak(i, mates[i], Loops.WEAK_END);
                        reached = mates[i];
                    }
                }
            }
            return sum;
        }

        /** The energy of the loop of the pair that opens at i. */
        int loopEnergy(int i) {
            int j = mates[i];
            int branches = 0;
            int lastBranch = i;
            int manySum = loops.multiClosing(i, j);
            int reached = i;
            for (int p = i + 1; p < j; p++) {
                if (p > reached && opensAt(p)) {
                    branches++;
                    lastBranch = p;
                    reached = mates[p];
                    manySum += loops.multiBranch(p, reached);
                } else if (p > reached) {
                    manySum += Loops.MULTI_PLACE;
                }
            }
            if (branches == 0) {
                return loops.hairpin(i, j);
            }
            return branches == 1 ? loops.withOne(i, j, lastBranch, mates[lastBranch]) : manySum;
        }
    }
}
