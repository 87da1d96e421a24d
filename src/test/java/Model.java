import java.util.ArrayList;
import java.util.Comparator;
import java.util.List;

/**
 * The document told again in the plainest way, for comparison: all structures are made by trying every character at
 * every place, and each loop's energy is worked out from the pairs alone.
 */
final class Model {
    private static final String KINDS = "CG GC GU UG AU UA";
    private static final int[][] STACK = {
        {-24, -33, -21, -14, -21, -21},
        {-33, -34, -25, -15, -22, -24},
        {-21, -25, 13, -5, -14, -13},
        {-14, -15, -5, 3, -6, -10},
        {-21, -22, -14, -6, -11, -9},
        {-21, -24, -13, -10, -9, -13}
    };

    record Fold(String text, int[] mates, int pairs, int energy) { }

    private String bases = "";
    private List<Fold> all = allFolds();
    private List<Fold> list = new ArrayList<>();
    private Fold structure = all.get(0);
    private String typed = "";

    boolean base(char c) {
        if ("ACGU".indexOf(c) < 0 || bases.length() == 18) {
            return false;
        }
        become(bases + c);
        return true;
    }

    int clear() {
        int gone = bases.length();
        become("");
        return gone;
    }

    private void become(String newBases) {
        bases = newBases;
        all = allFolds();
        list = new ArrayList<>();
        structure = fold(".".repeat(bases.length()));
    }

    int most() {
        return all.stream().mapToInt(Fold::pairs).max().getAsInt();
    }

    int least() {
        return all.stream().mapToInt(Fold::energy).min().getAsInt();
    }

    int ways() {
        return all.size();
    }

    int list(int delta) {
        if (delta < 0 || delta > 300) {
            return -1;
        }
        int limit = least() + delta;
        List<Fold> near = new ArrayList<>(all.stream().filter(f -> f.energy() <= limit).toList());
        near.sort(Comparator.comparingInt(Fold::energy).thenComparing(Fold::text));
        list = near.size() > 150 ? new ArrayList<>() : near;
        return near.size() > 150 ? -2 : near.size();
    }

    int energyOf(int k) {
        return k >= 0 && k < list.size() ? list.get(k).energy() : 0;
    }

    int at(int k, int i) {
        boolean there = k >= 0 && k < list.size() && i >= 0 && i < bases.length();
        return there ? list.get(k).text().charAt(i) : -1;
    }

    int take(int k) {
        if (k < 0 || k >= list.size()) {
            return -1;
        }
        structure = list.get(k);
        return structure.pairs();
    }

    boolean type(char c) {
        if (c < 32 || c > 126 || typed.length() == 20) {
            return false;
        }
        typed += c;
        return true;
    }

    int read() {
        String text = typed;
        typed = "";
        for (int p = 0; p <= text.length(); p++) {
            if (wrongAt(text, p)) {
                return -10 - p;
            }
        }
        structure = fold(text);
        return structure.pairs();
    }

    private boolean wrongAt(String text, int p) {
        if (p == text.length()) {
            return p < bases.length() || depth(text) > 0;
        }
        if (p >= bases.length() || "().".indexOf(text.charAt(p)) < 0) {
            return true;
        }
        int first = text.charAt(p) == ')' ? openingOf(text, p) : 0;
        return first < 0 || text.charAt(p) == ')' && !canPair(first, p);
    }

    private static int depth(String text) {
        return (int) (text.chars().filter(c -> c == '(').count() - text.chars().filter(c -> c == ')').count());
    }

    private static int openingOf(String text, int p) {
        int closings = 1;
        for (int q = p - 1; q >= 0; q--) {
            closings += text.charAt(q) == ')' ? 1 : text.charAt(q) == '(' ? -1 : 0;
            if (closings == 0) {
                return q;
            }
        }
        return -1;
    }

    int energy() {
        return structure.energy();
    }

    int partner(int i) {
        return i >= 0 && i < bases.length() ? structure.mates()[i] : -1;
    }

    int loop(int i) {
        return partner(i) > i ? loopEnergy(structure.mates(), i, partner(i)) : 0;
    }

    private int kind(int first, int second) {
        int place = KINDS.indexOf("" + bases.charAt(first) + bases.charAt(second));
        return place < 0 ? -1 : place / 3;
    }

    private boolean canPair(int i, int j) {
        return j - i > 3 && kind(i, j) >= 0;
    }

    private boolean weak(int i, int j) {
        return kind(i, j) >= 2;
    }

    private List<Fold> allFolds() {
        List<Fold> folds = new ArrayList<>();
        grow("", folds);
        return folds;
    }

    private void grow(String text, List<Fold> folds) {
        if (depth(text) > bases.length() - text.length()) {
            return;
        }
        if (text.length() == bases.length()) {
            folds.add(fold(text));
            return;
        }
        for (char c : "().".toCharArray()) {
            if (!wrongAt(text + c, text.length())) {
                grow(text + c, folds);
            }
        }
    }

    private Fold fold(String text) {
        int[] mates = new int[text.length()];
        java.util.Arrays.fill(mates, -1);
        int pairs = 0;
        for (int j = 0; j < text.length(); j++) {
            if (text.charAt(j) == ')') {
                int i = openingOf(text, j);
                mates[i] = j;
                mates[j] = i;
                pairs++;
            }
        }
        return new Fold(text, mates, pairs, energyOf(mates));
    }

    private int energyOf(int[] mates) {
        int sum = 0;
        for (int i = 0; i < mates.length; i++) {
            if (mates[i] > i) {
                sum += loopEnergy(mates, i, mates[i]);
                sum += enclosed(mates, i, -1, mates.length) == 0 && weak(i, mates[i]) ? 5 : 0;
            }
        }
        return sum;
    }

    /** How many pairs within first, last have place p strictly within them. */
    private static int enclosed(int[] mates, int p, int first, int last) {
        int count = 0;
        for (int i = first + 1; i < last; i++) {
            if (mates[i] > i && i < p && p < mates[i]) {
                count++;
            }
        }
        return count;
    }

    private int loopEnergy(int[] mates, int i, int j) {
        List<Integer> inner = new ArrayList<>();
        int u = 0;
        for (int p = i + 1; p < j; p++) {
            if (enclosed(mates, p, i, j) == 0) {
                if (mates[p] > p) {
                    inner.add(p);
                }
                if (mates[p] < 0) {
                    u++;
                }
            }
        }
        if (inner.isEmpty()) {
            return hairpin(i, j, u);
        }
        if (inner.size() == 1) {
            return withOne(i, j, inner.get(0), mates[inner.get(0)]);
        }
        int sum = 34 + 4 * (inner.size() + 1) + u + (weak(i, j) ? 5 : 0);
        for (int k : inner) {
            sum += weak(k, mates[k]) ? 5 : 0;
        }
        return sum;
    }

    private int hairpin(int i, int j, int u) {
        if (bases.substring(i, j + 1).equals("CUUCGG")) {
            return 26;
        }
        int energy = u == 3 ? 54 : u == 4 ? 56 : u == 5 ? 57 : u == 6 ? 54 : u == 7 ? 60 : u == 8 ? 55 : 64;
        return energy + (weak(i, j) ? 5 : 0);
    }

    private int withOne(int i, int j, int k, int l) {
        int a = k - i - 1;
        int b = j - l - 1;
        int stack = STACK[kind(i, j)][kind(l, k)];
        if (a == 0 && b == 0) {
            return stack;
        }
        if (a == 0 || b == 0) {
            int other = a + b;
            return other == 1 ? 38 + stack : other == 2 ? 28 : other == 3 ? 32 : 20 + 4 * other;
        }
        int sum = a + b;
        int energy = sum == 2 ? 5 : sum == 3 ? 16 : sum == 4 ? 11 : sum == 5 ? 20 : 15 + sum;
        int lopsided = 6 * (a > b ? a - b : b - a);
        energy += lopsided > 30 ? 30 : lopsided;
        return energy + (weak(i, j) ? 7 : 0) + (weak(k, l) ? 7 : 0);
    }
}
