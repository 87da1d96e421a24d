/** Promises 7 to 9: the whole list for every delta, on strands with all sorts of loops, beside the model. */
public final class DeltaTest {
    // Branched loops with a helix of negative energy first or last, three branches, a pair before or behind a branched
    // loop, only weak pairs, and many structures.
    private static final String[] STRANDS = {
        "GGGCUUCGGCCGAAACC", "GGAAACGGCUUCGGCCC", "GGGCUUCGGCCCUUCGGC", "GCUUCGGGGCUUCGGCCC", "GGAAACGAAACAGAAACC",
        "AUAAAAGAAAUUAAAGU", "GGGGGGAAAAAACCCCCC", "GUGUGUGUGUGUGUGUGU", "GAGCAAAGCAGCAAAGCC", "CCUCUAGCUGUGGCC",
        "GAAACGGAAACGAAACCA", "AGGAAACGAAACCGAAAC", "CGAAAAAACAAGAAAACG", "UUUUUUUUUGAAAAAAGA"
    };
    private static final Check CHECK = new Check();

    public static void main(String[] args) {
        for (String bases : STRANDS) {
            Model model = new Model();
            for (char c : bases.toCharArray()) {
                model.base(c);
            }
            for (int delta = 0; delta <= 300; delta++) {
                compare(bases, delta, model);
            }
        }
        CHECK.finish();
    }

    private static void compare(String bases, int delta, Model model) {
        FoldedStrand strand = Check.strand(bases);
        String name = bases + " list(" + delta + ")";
        int size = model.list(delta);
        CHECK.due(name, strand.list(delta), size);
        // An object answers 512 calls, so the structures that one delta shows are a few of those at its end.
        int first = Math.max(0, size - 20);
        for (int k = first; k <= size; k++) {
            CHECK.due(name + ": energyOf(" + k + ")", strand.energyOf(k), model.energyOf(k));
            for (int i = 0; i < bases.length(); i++) {
                CHECK.due(name + ": at(" + k + ", " + i + ")", strand.at(k, i), model.at(k, i));
            }
        }
    }
}
