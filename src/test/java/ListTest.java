/** Promises 7 to 10: list, energyOf, at and take. */
public final class ListTest {
    private static final Check CHECK = new Check();

    public static void main(String[] args) {
        limitIsIncluded();
        orderByEnergyThenText();
        wrongDeltas();
        wrongDeltaLeavesTheList();
        atMostOneHundredAndFifty();
        tooManyEmptyTheList();
        listAgain();
        branchedStructures();
        emptyStrand();
        entriesThatAreNotThere();
        takes();
        CHECK.finish();
    }

    private static void dueList(String bases, int delta, String... due) {
        FoldedStrand strand = Check.strand(bases);
        CHECK.due(bases + ": list(" + delta + ")", strand.list(delta), due.length);
        for (int k = 0; k < due.length; k++) {
            String found = Check.text(strand, k) + " " + strand.energyOf(k);
            CHECK.due(bases + ": structure " + k, found, due[k]);
        }
    }

    private static void limitIsIncluded() {
        FoldedStrand strand = Check.strand("CUUCGG");
        int[][] due = {{0, 1}, {25, 1}, {26, 2}, {53, 2}, {54, 3}, {63, 3}, {64, 4}, {299, 4}, {300, 4}};
        for (int[] one : due) {
            CHECK.due("list(" + one[0] + ")", strand.list(one[0]), one[1]);
        }
        FoldedStrand negative = Check.strand("GGGAAACCC");
        CHECK.due("least -12: list(11)", negative.list(11), 1);
        CHECK.due("least -12: list(12)", negative.list(12), 2);
    }

    private static void orderByEnergyThenText() {
        dueList("GGAAACC", 300,
            "....... 0", "((...)) 21", ".(...). 54", "(....). 56", ".(....) 56", "(.....) 57");
        dueList("GGGAAAUCCC", 60,
            "(((....))) -10", ".......... 0", "(((...))). 11", "((......)) 21", ".((....)). 23", "((.....)). 24",
            ".((.....)) 24", ".((...)).. 44", "((....)).. 46", "(((...)).) 49", "(((...).)) 49");
        dueList("AAAAAU", 300, "...... 0", ".(...) 64", "(....) 66");
    }

    private static void wrongDeltas() {
        FoldedStrand strand = Check.strand("CUUCGG");
        for (int delta : new int[] {-1, 301, Integer.MIN_VALUE, Integer.MAX_VALUE}) {
            CHECK.due("list(" + delta + ")", strand.list(delta), -1);
        }
    }

    private static void wrongDeltaLeavesTheList() {
        FoldedStrand strand = Check.strand("CUUCGG");
        strand.list(26);
        CHECK.due("list(301)", strand.list(301), -1);
        CHECK.due("energyOf(1) behind it", strand.energyOf(1), 26);
        CHECK.due("list(-1)", strand.list(-1), -1);
        CHECK.due("take(1) behind it", strand.take(1), 1);
    }

    private static void atMostOneHundredAndFifty() {
        FoldedStrand most = Check.strand("CCUCUAGCUGUGGCC");
        CHECK.due("150 ways", most.ways(), 150);
        CHECK.due("list of 150", most.list(300), 150);
        CHECK.due("structure 149", most.take(149) > 0, true);
        CHECK.due("structure 150", most.take(150), -1);
        for (String bases : new String[] {"CAAACAUAGUAACGUC", "CUGCCAUCAAGGCUA"}) {
            FoldedStrand more = Check.strand(bases);
            CHECK.due("151 ways", more.ways(), 151);
            CHECK.due("list of 151", more.list(300), -2);
        }
    }

    private static void tooManyEmptyTheList() {
        FoldedStrand strand = Check.strand("UUUUUUUUUGAAAAAAGA");
        CHECK.due("ways", strand.ways(), 13442);
        int some = strand.list(0);
        CHECK.due("list(0) has some", some > 0, true);
        int pairs = strand.take(0);
        int energy = strand.energy();
        CHECK.due("list(300)", strand.list(300), -2);
        CHECK.due("energyOf(0)", strand.energyOf(0), 0);
        CHECK.due("at(0, 0)", strand.at(0, 0), -1);
        CHECK.due("take(0)", strand.take(0), -1);
        CHECK.due("THE STRUCTURE stays", strand.energy(), energy);
        CHECK.due("list(0) again", strand.list(0), some);
        CHECK.due("take(0) again", strand.take(0), pairs);
    }

    private static void listAgain() {
        FoldedStrand strand = Check.strand("GGAAACC");
        CHECK.due("list(57)", strand.list(57), 6);
        CHECK.due("list(21)", strand.list(21), 2);
        CHECK.due("energyOf(2) of two", strand.energyOf(2), 0);
        CHECK.due("take(2) of two", strand.take(2), -1);
        CHECK.due("list(57) again", strand.list(57), 6);
        CHECK.due("energyOf(5)", strand.energyOf(5), 57);
    }

    private static void branchedStructures() {
        String bases = "GAGCAAAGCAGCAAAGCC";
        int branched = 0;
        for (int k = 0; k < 146; k++) {
            FoldedStrand strand = Check.strand(bases);
            CHECK.due("all of them", strand.list(300), 146);
            String text = Check.text(strand, k);
            int energy = strand.energyOf(k);
            CHECK.due("pairs of " + text, strand.take(k), Check.read(strand, text));
            CHECK.due("energy of " + text, strand.energy(), energy);
            if (text.equals("(.((...)).((...)))")) {
                branched++;
                CHECK.due("the branched one's energy", energy, 88);
            }
        }
        CHECK.due("the branched one is there once", branched, 1);
    }

    private static void emptyStrand() {
        FoldedStrand strand = new FoldedStrand();
        CHECK.due("empty: list(0)", strand.list(0), 1);
        CHECK.due("empty: energyOf(0)", strand.energyOf(0), 0);
        CHECK.due("empty: at(0, 0)", strand.at(0, 0), -1);
        CHECK.due("empty: take(0)", strand.take(0), 0);
        CHECK.due("empty: take(1)", strand.take(1), -1);
    }

    private static void entriesThatAreNotThere() {
        FoldedStrand strand = Check.strand("GGGAAACCC");
        CHECK.due("list(12)", strand.list(12), 2);
        for (int k : new int[] {-1, 2, 150, Integer.MIN_VALUE, Integer.MAX_VALUE}) {
            CHECK.due("energyOf(" + k + ")", strand.energyOf(k), 0);
            CHECK.due("at(" + k + ", 0)", strand.at(k, 0), -1);
            CHECK.due("take(" + k + ")", strand.take(k), -1);
        }
        for (int i : new int[] {-1, 9, 18, Integer.MIN_VALUE, Integer.MAX_VALUE}) {
            CHECK.due("at(0, " + i + ")", strand.at(0, i), -1);
        }
        CHECK.due("at(0, 8)", strand.at(0, 8), ')');
        CHECK.due("at(1, 8)", strand.at(1, 8), '.');
    }

    private static void takes() {
        FoldedStrand strand = Check.strand("GGGAAACCC");
        strand.list(300);
        CHECK.due("take(0)", strand.take(0), 3);
        CHECK.due("energy", strand.energy(), -12);
        CHECK.due("take(4)", strand.take(4), 2);
        CHECK.due("energy of 4", strand.energy(), 23);
        int[] partners = {-1, 8, 7, -1, -1, -1, -1, 2, 1};
        for (int i = 0; i < partners.length; i++) {
            CHECK.due("partner(" + i + ") of .((....))", strand.partner(i), partners[i]);
        }
        CHECK.due("take(20)", strand.take(20), -1);
        CHECK.due("energy behind a take that fails", strand.energy(), 23);
        CHECK.due("list(0)", strand.list(0), 1);
        CHECK.due("energy behind a new list", strand.energy(), 23);
        CHECK.due("take(0) again", strand.take(0), 3);
        CHECK.due("a read that fails", Check.read(strand, ".((....)"), -18);
        CHECK.due("take(0) behind it", strand.take(0), 3);
        CHECK.due("energy behind that", strand.energy(), -12);
    }
}
