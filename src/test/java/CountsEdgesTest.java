/** The edges of which places can pair, which pairs can stand together, and promises 4 to 6. */
public final class CountsEdgesTest {
    private static final Check CHECK = new Check();
    private static final String KINDS = "CG GC GU UG AU UA";

    public static void main(String[] args) {
        moreThanThree();
        everyDistance();
        inThisOrder();
        noPlaceInTwoPairs();
        noTwoCrossing();
        most();
        least();
        ways();
        CHECK.finish();
    }

    private static int canPair(char a, char b) {
        return KINDS.contains("" + a + b) ? 1 : 0;
    }

    private static void moreThanThree() {
        CHECK.sentence("Terms, two places can pair if j - i is more than 3");
        for (char a : "ACGU".toCharArray()) {
            for (char b : "ACGU".toCharArray()) {
                CHECK.due(a + "AA" + b + ", ways()", Check.strand(a + "AA" + b).ways(), 1);
                CHECK.due(a + "AA" + b + ", most()", Check.strand(a + "AA" + b).most(), 0);
                CHECK.due(a + "AAA" + b + ", ways()", Check.strand(a + "AAA" + b).ways(), 1 + canPair(a, b));
                CHECK.due(a + "AAA" + b + ", most()", Check.strand(a + "AAA" + b).most(), canPair(a, b));
            }
        }
    }

    private static void everyDistance() {
        CHECK.sentence("Terms, two places can pair if j - i is more than 3, up to 17");
        for (int between = 0; between <= 16; between++) {
            FoldedStrand strand = Check.strand("G" + "A".repeat(between) + "C");
            int due = between < 3 ? 0 : 1;
            CHECK.due(between + " between, most()", strand.most(), due);
            CHECK.due(between + " between, ways()", strand.ways(), 1 + due);
            String text = "(" + ".".repeat(between) + ")";
            CHECK.due(between + " between, read()", Check.read(strand, text), due == 1 ? 1 : -11 - between);
        }
    }

    private static void inThisOrder() {
        CHECK.sentence("Terms, their bases are, in this order, of a kind");
        for (char a : "ACGU".toCharArray()) {
            for (char b : "ACGU".toCharArray()) {
                int due = canPair(a, b) == 1 ? 1 : -14;
                CHECK.due(a + "CCC" + b + ", read()", Check.read(Check.strand(a + "CCC" + b), "(...)"), due);
            }
        }
    }

    private static void due(String bases, int most, int ways) {
        FoldedStrand strand = Check.strand(bases);
        CHECK.due(bases + ", most()", strand.most(), most);
        CHECK.due(bases + ", ways()", strand.ways(), ways);
        CHECK.due(bases + ", list(300)", strand.list(300), ways);
    }

    private static void noPlaceInTwoPairs() {
        CHECK.sentence("Terms, no place in two pairs");
        // The G may pair with each of three.
        due("CCCCCCG", 1, 4);
        // With a second G: seven pairs, and three ways to have one within the other.
        due("CCCCCCGG", 2, 11);
    }

    private static void noTwoCrossing() {
        CHECK.sentence("Terms, no two pairs crossing");
        // C with G, and A or U with the other: crossing, one within the other, and one behind the other.
        due("CACCCGU", 1, 3);
        due("CAAAAUG", 2, 4);
        due("CCCCGUAAAA", 2, 4);
    }

    private static void most() {
        CHECK.sentence("Promise 4, how many pairs a structure has at most");
        CHECK.due("no bases", new FoldedStrand().most(), 0);
        CHECK.due("4 bases", Check.strand("GGCC").most(), 0);
        CHECK.due("5 bases", Check.strand("GGGCC").most(), 1);
        CHECK.due("6 bases", Check.strand("GGGCCC").most(), 1);
        CHECK.due("7 bases", Check.strand("GGGCCCC").most(), 2);
        CHECK.due("16 bases", Check.strand("GGGGGGAAAACCCCCC").most(), 6);
        CHECK.due("17 bases", Check.strand("GGGGGGGAAACCCCCCC").most(), 7);
        CHECK.due("18 bases", Check.strand("GGGGGGGAAAACCCCCCC").most(), 7);
        CHECK.due("18 bases that do not pair", Check.strand("A".repeat(18)).most(), 0);
    }

    private static void least() {
        CHECK.sentence("Promise 5, the least energy of all structures");
        CHECK.due("no bases", new FoldedStrand().least(), 0);
        CHECK.due("one structure", Check.strand("GGCC").least(), 0);
        // One stack of -34 does not make up for a hairpin of 54, two of -34 and -24 do.
        CHECK.due("no pairs are best", Check.strand("GCAAAGC").least(), 0);
        CHECK.due("three pairs are best", Check.strand("GCGAAACGC").least(), -34 - 24 + 54);
        CHECK.due("just below 0", Check.strand("CCGGCGCCGG").least(), -1);
        CHECK.due("the firm hairpin in a helix of 18", Check.strand("GGGGGGCUUCGGCCCCCC").least(), -173);
    }

    private static void ways() {
        CHECK.sentence("Promise 6, how many structures there are");
        CHECK.due("no bases", new FoldedStrand().ways(), 1);
        CHECK.due("4 bases", Check.strand("GGCC").ways(), 1);
        CHECK.due("5 bases", Check.strand("GGGCC").ways(), 2);
        CHECK.due("18 bases that do not pair", Check.strand("A".repeat(18)).ways(), 1);
        CHECK.due("18 bases with one pair", Check.strand("G" + "A".repeat(16) + "C").ways(), 2);
        CHECK.due("18 bases with a great many", Check.strand("CCCCUUUUUGGGGGGGGG").ways(), 13442);
    }
}
