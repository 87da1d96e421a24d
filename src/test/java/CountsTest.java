/** Promises 4 to 6: most, least and ways. */
public final class CountsTest {
    private static final Check CHECK = new Check();

    public static void main(String[] args) {
        due("", 0, 0, 1);
        due("G", 0, 0, 1);
        due("GAAC", 0, 0, 1);
        due("GAAAC", 1, 0, 2);
        due("CUUCGG", 1, 0, 4);
        due("GGAAACC", 2, 0, 6);
        due("GGGAAACCC", 3, -12, 20);
        due("GGGAAAUCCC", 3, -10, 35);
        due("GAGCAAAGCAGCAAAGCC", 5, 0, 146);
        due("GGCCAAAGGUACCAAGCC", 5, -3, 597);
        due("AAAAAAAAAAAAAAAAAA", 0, 0, 1);
        longestHelices();
        whichBasesPair();
        growsWithEachBase();
        askingChangesNothing();
        CHECK.finish();
    }

    private static void due(String bases, int most, int least, int ways) {
        FoldedStrand strand = Check.strand(bases);
        CHECK.due(bases + ": most", strand.most(), most);
        CHECK.due(bases + ": least", strand.least(), least);
        CHECK.due(bases + ": ways", strand.ways(), ways);
    }

    private static void longestHelices() {
        // Seven nested pairs: six stacks of GC on GC, -33 each, round a hairpin of 56.
        FoldedStrand strand = Check.strand("GGGGGGGAAAACCCCCCC");
        CHECK.due("seven pairs: most", strand.most(), 7);
        CHECK.due("seven pairs: least", strand.least(), 6 * -33 + 56);
        // Five stacks of GC on GC, one of GC on CG (row GC, column GC: -34), and the firm hairpin.
        FoldedStrand firm = Check.strand("GGGGGGCUUCGGCCCCCC");
        CHECK.due("firm hairpin: least", firm.least(), 5 * -33 - 34 + 26);
    }

    private static void whichBasesPair() {
        String pairing = "CG GC GU UG AU UA";
        for (char a : "ACGU".toCharArray()) {
            for (char b : "ACGU".toCharArray()) {
                int due = pairing.contains("" + a + b) ? 1 : 0;
                CHECK.due(a + "..." + b + ": ways", ways(a, b, 3), 1 + due);
                CHECK.due(a + ".." + b + ": ways", ways(a, b, 2), 1);
            }
        }
    }

    private static int ways(char a, char b, int between) {
        FoldedStrand strand = new FoldedStrand();
        strand.base(a);
        for (int count = 0; count < between; count++) {
            strand.base('A');
        }
        strand.base(b);
        return strand.ways();
    }

    private static void growsWithEachBase() {
        FoldedStrand strand = new FoldedStrand();
        String bases = "GGGAAACCC";
        int[] ways = {1, 1, 1, 1, 1, 1, 4, 10, 20};
        int[] least = {0, 0, 0, 0, 0, 0, 0, 0, -12};
        for (int n = 0; n < bases.length(); n++) {
            strand.base(bases.charAt(n));
            CHECK.due("least of " + bases.substring(0, n + 1), strand.least(), least[n]);
            CHECK.due("ways of " + bases.substring(0, n + 1), strand.ways(), ways[n]);
        }
    }

    private static void askingChangesNothing() {
        FoldedStrand strand = Check.strand("GGGAAACCC");
        strand.list(33);
        strand.take(2);
        strand.type('.');
        strand.most();
        strand.least();
        strand.ways();
        CHECK.due("list stays", strand.energyOf(2), 21);
        CHECK.due("structure stays", strand.energy(), 21);
        CHECK.due("typed stays", strand.read(), -11);
    }
}
