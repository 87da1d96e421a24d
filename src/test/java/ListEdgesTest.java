/** The edges of the list: the order of texts, and promises 7 to 10. */
public final class ListEdgesTest {
    private static final Check CHECK = new Check();
    private static final int BAD = FoldedStrand.BAD;
    private static final int FULL = FoldedStrand.FULL;
    private static final int[] FAR = {
        Integer.MIN_VALUE, Integer.MIN_VALUE + 1, -65536, -256, -150, -18, -2, 301, 512, 65536, 1 << 30,
        Integer.MAX_VALUE - 1, Integer.MAX_VALUE
    };

    public static void main(String[] args) {
        emptyAtFirst();
        wrongDelta();
        wrongDeltaBeforeTooMany();
        wrongDeltaLeavesTheList();
        atMostLeastAndDelta();
        atMostLeastAndDeltaBelowZero();
        lesserEnergiesFirst();
        orderOfTexts();
        oneHundredAndFifty();
        oneMoreIsFull();
        fullEmptiesTheList();
        fullLeavesTheStructure();
        listWithoutBases();
        energyOf();
        energyOfTheLast();
        at();
        atOfEighteen();
        take();
        takeTellsHowManyPairs();
        takeLeavesNothingOfFormerOnes();
        badTakeLeavesTheStructure();
        nothingOfALongerList();
        CHECK.finish();
    }

    private static void dueNone(String when, FoldedStrand strand, int k) {
        CHECK.due(when + ", energyOf(" + k + ")", strand.energyOf(k), 0);
        CHECK.due(when + ", at(" + k + ", 0)", strand.at(k, 0), BAD);
        CHECK.due(when + ", take(" + k + ")", strand.take(k), BAD);
    }

    private static void emptyAtFirst() {
        CHECK.sentence("Terms, THE LIST (empty at first)");
        FoldedStrand strand = Check.strand("GGGAAACCC");
        dueNone("no list yet", strand, 0);
        CHECK.due("list(0)", strand.list(0), 1);
        CHECK.due("take(0)", strand.take(0), 3);
    }

    private static void wrongDelta() {
        CHECK.sentence("Promise 7, BAD when delta is not 0 .. 300");
        FoldedStrand strand = Check.strand("GAAAC");
        CHECK.due("list(-1)", strand.list(-1), BAD);
        CHECK.due("list(0)", strand.list(0), 1);
        CHECK.due("list(1)", strand.list(1), 1);
        CHECK.due("list(299)", strand.list(299), 2);
        CHECK.due("list(300)", strand.list(300), 2);
        CHECK.due("list(301)", strand.list(301), BAD);
        for (int delta : FAR) {
            CHECK.due("list(" + delta + ")", strand.list(delta), BAD);
        }
        for (int delta : FAR) {
            CHECK.due("no bases, list(" + delta + ")", new FoldedStrand().list(delta), BAD);
        }
    }

    private static void wrongDeltaBeforeTooMany() {
        CHECK.sentence("Promise 7, BAD when delta is not 0 .. 300, also when there were too many");
        FoldedStrand strand = Check.strand("CCCCUUUUUGGGGGGGGG");
        CHECK.due("list(300)", strand.list(300), FULL);
        CHECK.due("list(301)", strand.list(301), BAD);
        CHECK.due("list(-1)", strand.list(-1), BAD);
    }

    private static void wrongDeltaLeavesTheList() {
        CHECK.sentence("Promise 7, BAD (the document tells no change of the list)");
        for (int delta : new int[] {-1, 301}) {
            FoldedStrand strand = Check.strand("GGGAAACCC");
            CHECK.due("list(12)", strand.list(12), 2);
            CHECK.due("take(0)", strand.take(0), 3);
            String before = Check.state(strand);
            CHECK.due("list(" + delta + ")", strand.list(delta), BAD);
            CHECK.due("all answers behind list(" + delta + ")", Check.state(strand), before);
            CHECK.due("take(1) behind list(" + delta + ")", strand.take(1), 0);
            CHECK.due("take(2) behind list(" + delta + ")", strand.take(2), BAD);
        }
    }

    private static void dueSizes(String bases, int... energies) {
        FoldedStrand strand = Check.strand(bases);
        for (int delta = 0; delta <= 300; delta++) {
            int due = 0;
            for (int energy : energies) {
                due += energy <= energies[0] + delta ? 1 : 0;
            }
            CHECK.due(bases + ", list(" + delta + ")", strand.list(delta), due);
        }
    }

    private static void atMostLeastAndDelta() {
        CHECK.sentence("Promise 7, energies at most the least one + delta");
        dueSizes("GAAAC", 0, 54);
        dueSizes("AAAAU", 0, 64);
        dueSizes("CUUCGG", 0, 26, 54, 64);
        dueSizes("GGAAACC", 0, 21, 54, 56, 56, 57);
    }

    private static void atMostLeastAndDeltaBelowZero() {
        CHECK.sentence("Promise 7, energies at most the least one + delta, the least one below 0");
        FoldedStrand strand = Check.strand("GGGAAAUCCC");
        CHECK.due("least()", strand.least(), -10);
        // The energies: -10, 0, 11, 21, 23, 24, 24, 44, ..
        int[][] sizes = {
            {0, 1}, {9, 1}, {10, 2}, {20, 2}, {21, 3}, {30, 3}, {31, 4}, {32, 4}, {33, 5}, {34, 7}, {53, 7}, {54, 8}
        };
        for (int[] size : sizes) {
            CHECK.due("list(" + size[0] + ")", strand.list(size[0]), size[1]);
        }
    }

    private static void lesserEnergiesFirst() {
        CHECK.sentence("Promise 7, those with lesser energies first");
        FoldedStrand strand = Check.strand("GGAAACC");
        CHECK.due("list(300)", strand.list(300), 6);
        int[] energies = {0, 21, 54, 56, 56, 57};
        for (int k = 0; k < energies.length; k++) {
            CHECK.due("energyOf(" + k + ")", strand.energyOf(k), energies[k]);
        }
        // By their texts alone the last one would come before this one.
        CHECK.due("text 0", Check.text(strand, 0), ".......");
        CHECK.due("text 5", Check.text(strand, 5), "(.....)");
    }

    private static void dueTie(String bases, int k, int energy, String first, String second) {
        FoldedStrand strand = Check.strand(bases);
        CHECK.due(bases + ", list", strand.list(energy - strand.least()) > k + 1, true);
        CHECK.due(bases + ", energyOf(" + k + ")", strand.energyOf(k), energy);
        CHECK.due(bases + ", energyOf(" + (k + 1) + ")", strand.energyOf(k + 1), energy);
        CHECK.due(bases + ", text " + k, Check.text(strand, k), first);
        CHECK.due(bases + ", text " + (k + 1), Check.text(strand, k + 1), second);
    }

    private static void orderOfTexts() {
        CHECK.sentence("Terms, ( before ) before . by the first character that differs");
        dueTie("GUCAAGUCUCAU", 21, 77, "((...(...)))", "((...)).....");
        dueTie("GAGAUU", 1, 64, "(...).", ".(...)");
        dueTie("CCCGGCGG", 3, 54, "(...)...", "(......)");
    }

    private static void oneHundredAndFifty() {
        CHECK.sentence("Promise 7, FULL when there are more than 150, not when there are 150");
        FoldedStrand strand = Check.strand("CCUCUAGCUGUGGCC");
        CHECK.due("ways()", strand.ways(), 150);
        CHECK.due("list(300)", strand.list(300), 150);
        CHECK.due("energyOf(149)", strand.energyOf(149), 165);
        CHECK.due("at(149, 0)", strand.at(149, 0) != BAD, true);
        CHECK.due("at(149, 14)", strand.at(149, 14) != BAD, true);
        CHECK.due("take(149)", strand.take(149) > 0, true);
        CHECK.due("energy()", strand.energy(), 165);
        dueNone("150 of them", strand, 150);
    }

    private static void dueFullAt(String bases, int delta) {
        FoldedStrand strand = Check.strand(bases);
        CHECK.due(bases + ", list(" + (delta - 1) + ")", strand.list(delta - 1), 150);
        CHECK.due(bases + ", list(" + delta + ")", strand.list(delta), FULL);
        CHECK.due(bases + ", list(300)", strand.list(300), FULL);
        CHECK.due(bases + ", list(" + (delta - 1) + ") again", strand.list(delta - 1), 150);
    }

    private static void oneMoreIsFull() {
        CHECK.sentence("Promise 7, FULL when there are more than 150, one more is enough");
        // 151 structures, the greatest energy only once: 186 above the least one, and 197 above it.
        CHECK.due("ways()", Check.strand("CAAACAUAGUAACGUC").ways(), 151);
        dueFullAt("CAAACAUAGUAACGUC", 186);
        CHECK.due("ways()", Check.strand("CUGCCAUCAAGGCUA").ways(), 151);
        dueFullAt("CUGCCAUCAAGGCUA", 197);
        // More structures, the 151st alone at its energy.
        dueFullAt("CUUAACACUUUCGGC", 129);
        dueFullAt("UUUGUUAGAGGAU", 122);
        dueFullAt("GUCUACGCGCUCCGCCAC", 89);
    }

    private static void fullEmptiesTheList() {
        CHECK.sentence("Promise 7, FULL, the list is empty then");
        FoldedStrand strand = Check.strand("CCCCUUUUUGGGGGGGGG");
        int some = strand.list(0);
        CHECK.due("list(0) has one", some >= 1, true);
        CHECK.due("energyOf(0)", strand.energyOf(0), strand.least());
        CHECK.due("least() is not 0", strand.least() < 0, true);
        CHECK.due("list(300)", strand.list(300), FULL);
        for (int k : new int[] {0, 1, 75, 149, 150, 151}) {
            dueNone("behind FULL", strand, k);
        }
        CHECK.due("list(0) again", strand.list(0), some);
        CHECK.due("energyOf(0) again", strand.energyOf(0), strand.least());
    }

    private static void fullLeavesTheStructure() {
        CHECK.sentence("Promise 7, FULL (the document tells no change of THE STRUCTURE)");
        FoldedStrand strand = Check.strand("CCCCUUUUUGGGGGGGGG");
        CHECK.due("read()", Check.read(strand, "(................)"), 1);
        CHECK.due("list(300)", strand.list(300), FULL);
        CHECK.due("energy()", strand.energy(), 64);
        CHECK.due("partner(17)", strand.partner(17), 0);
    }

    private static void listWithoutBases() {
        CHECK.sentence("Promise 7, how many, when there are no bases");
        FoldedStrand strand = new FoldedStrand();
        for (int delta : new int[] {0, 1, 300}) {
            CHECK.due("list(" + delta + ")", strand.list(delta), 1);
            CHECK.due("energyOf(0)", strand.energyOf(0), 0);
            CHECK.due("at(0, 0)", strand.at(0, 0), BAD);
            CHECK.due("take(0)", strand.take(0), 0);
            CHECK.due("take(1)", strand.take(1), BAD);
        }
    }

    /** Three structures with energies -10, 0 and 11. */
    private static FoldedStrand listOfThree() {
        FoldedStrand strand = Check.strand("GGGAAAUCCC");
        CHECK.due("list(21)", strand.list(21), 3);
        return strand;
    }

    private static void energyOf() {
        CHECK.sentence("Promise 8, 0 when there is none");
        FoldedStrand strand = listOfThree();
        int[] due = {0, -10, 0, 11, 0};
        for (int k = -1; k <= 3; k++) {
            CHECK.due("energyOf(" + k + ")", strand.energyOf(k), due[k + 1]);
        }
        for (int k : FAR) {
            CHECK.due("energyOf(" + k + ")", strand.energyOf(k), 0);
        }
    }

    private static void energyOfTheLast() {
        CHECK.sentence("Promise 8, 0 when there is none, behind the last one of many");
        FoldedStrand strand = Check.strand("CUGCCAUCAAGGCUA");
        CHECK.due("list(196)", strand.list(196), 150);
        CHECK.due("energyOf(148)", strand.energyOf(148), 178);
        CHECK.due("energyOf(149)", strand.energyOf(149), 186);
        for (int k = 150; k <= 300; k++) {
            CHECK.due("energyOf(" + k + ")", strand.energyOf(k), 0);
        }
    }

    private static void at() {
        CHECK.sentence("Promise 9, BAD when there is none");
        FoldedStrand strand = listOfThree();
        String[] texts = {"(((....)))", "..........", "(((...)))."};
        for (int k = -1; k <= 3; k++) {
            for (int i = -2; i <= 20; i++) {
                boolean isThere = k >= 0 && k < 3 && i >= 0 && i < 10;
                CHECK.due("at(" + k + ", " + i + ")", strand.at(k, i), isThere ? texts[k].charAt(i) : BAD);
            }
        }
        for (int far : FAR) {
            CHECK.due("at(" + far + ", 0)", strand.at(far, 0), BAD);
            CHECK.due("at(0, " + far + ")", strand.at(0, far), BAD);
            CHECK.due("at(" + far + ", " + far + ")", strand.at(far, far), BAD);
        }
    }

    private static void atOfEighteen() {
        CHECK.sentence("Promise 9, BAD when there is none, behind the last one of 18 characters");
        FoldedStrand strand = Check.strand("G" + "A".repeat(16) + "C");
        CHECK.due("list(64)", strand.list(64), 2);
        for (int i = -70; i <= 140; i++) {
            int due = i < 0 || i > 17 ? BAD : i == 0 ? '(' : i == 17 ? ')' : '.';
            CHECK.due("at(1, " + i + ")", strand.at(1, i), due);
        }
    }

    private static void take() {
        CHECK.sentence("Promise 10, BAD when there is none");
        FoldedStrand strand = listOfThree();
        int[] due = {BAD, 3, 0, 3, BAD};
        for (int k = -1; k <= 3; k++) {
            CHECK.due("take(" + k + ")", strand.take(k), due[k + 1]);
        }
        for (int k : FAR) {
            CHECK.due("take(" + k + ")", strand.take(k), BAD);
        }
    }

    private static void takeTellsHowManyPairs() {
        CHECK.sentence("Promise 10, how many pairs, none and seven");
        FoldedStrand none = Check.strand("A".repeat(18));
        CHECK.due("list(0)", none.list(0), 1);
        CHECK.due("take(0)", none.take(0), 0);
        FoldedStrand seven = Check.strand("GGGGGGGAAAACCCCCCC");
        CHECK.due("list(0)", seven.list(0), 1);
        CHECK.due("take(0)", seven.take(0), 7);
        CHECK.due("partner(0)", seven.partner(0), 17);
        CHECK.due("partner(17)", seven.partner(17), 0);
        CHECK.due("energy()", seven.energy(), 6 * -33 + 56);
    }

    private static void takeLeavesNothingOfFormerOnes() {
        CHECK.sentence("Promise 10, THE STRUCTURE becomes structure k of the list, and nothing of a former one stays");
        FoldedStrand strand = listOfThree();
        int[] pairs = {3, 0, 3};
        int[] firstPartners = {9, BAD, 8};
        for (int k : new int[] {0, 1, 2, 1, 1, 0, 2, 0, 0, 1, 2}) {
            CHECK.due("take(" + k + ")", strand.take(k), pairs[k]);
            CHECK.due("energy() behind take(" + k + ")", strand.energy(), strand.energyOf(k));
            CHECK.due("partner(0) behind take(" + k + ")", strand.partner(0), firstPartners[k]);
            CHECK.due("partner(9) behind take(" + k + ")", strand.partner(9), k == 0 ? 0 : BAD);
        }
        CHECK.due("read() of no structure", Check.read(strand, "((......)."), -20);
        CHECK.due("take(0) behind it", strand.take(0), 3);
        CHECK.due("energy() behind it", strand.energy(), -10);
    }

    private static void badTakeLeavesTheStructure() {
        CHECK.sentence("Promise 10, BAD (the document tells no change of THE STRUCTURE)");
        for (int k : new int[] {-1, 3, 150, Integer.MIN_VALUE, Integer.MAX_VALUE}) {
            FoldedStrand strand = listOfThree();
            CHECK.due("take(2)", strand.take(2), 3);
            String before = Check.state(strand);
            CHECK.due("take(" + k + ")", strand.take(k), BAD);
            CHECK.due("all answers behind take(" + k + ")", Check.state(strand), before);
            CHECK.due("take(1)", strand.take(1), 0);
            CHECK.due("energy() behind take(1)", strand.energy(), 0);
        }
    }

    private static void nothingOfALongerList() {
        CHECK.sentence("Promises 8 to 10, none of a longer list or a longer strand before");
        FoldedStrand strand = Check.strand("GGGAAAUCCC");
        CHECK.due("list(60)", strand.list(60), 11);
        CHECK.due("list(21)", strand.list(21), 3);
        dueNone("behind a shorter list", strand, 3);
        dueNone("behind a shorter list", strand, 10);
        CHECK.due("clear()", strand.clear(), 10);
        Check.append(strand, "GAAAC");
        CHECK.due("list(54)", strand.list(54), 2);
        CHECK.due("at(1, 4)", strand.at(1, 4), ')');
        CHECK.due("at(1, 5)", strand.at(1, 5), BAD);
        CHECK.due("energyOf(1)", strand.energyOf(1), 54);
        dueNone("behind a shorter strand", strand, 2);
    }
}
