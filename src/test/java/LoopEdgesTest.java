/** The edges of the loops' energies by their cases, and promises 13 to 15. */
public final class LoopEdgesTest {
    private static final Check CHECK = new Check();
    private static final int BAD = FoldedStrand.BAD;
    private static final int[] FAR = {
        Integer.MIN_VALUE, Integer.MIN_VALUE + 1, -65536, -256, -18, -2, -1, 19, 20, 32, 64, 256, 65536,
        Integer.MAX_VALUE - 1, Integer.MAX_VALUE
    };

    public static void main(String[] args) {
        hairpinLengths();
        weakKinds();
        firmHairpin();
        bothZero();
        oneZero();
        neitherZero();
        atMostThirty();
        weakOfTwo();
        twoOrMoreWithin();
        unpairedOfBranched();
        weakOfBranched();
        weakInNoOther();
        noPairsAtFirst();
        energyOfNoPairs();
        partnerOfPaired();
        partnerOutside();
        loopOfFirstPlaces();
        loopOutside();
        behindALongerStrand();
        CHECK.finish();
    }

    private static void dueLoop(String bases, String text, int want) {
        FoldedStrand strand = Check.strand(bases);
        CHECK.due(bases + ", read() of " + text + " is a structure", Check.read(strand, text) >= 0, true);
        CHECK.due(bases + " " + text + ", loop(0)", strand.loop(0), want);
    }

    private static void dueEnergy(String bases, String text, int want) {
        FoldedStrand strand = Check.strand(bases);
        CHECK.due(bases + ", read() of " + text + " is a structure", Check.read(strand, text) >= 0, true);
        CHECK.due(bases + " " + text + ", energy()", strand.energy(), want);
    }

    private static void hairpinLengths() {
        CHECK.sentence("Terms, c is 0, for u = 3 .. 8, for more 64");
        int[] due = {54, 56, 57, 54, 60, 55, 64, 64, 64, 64, 64, 64, 64, 64};
        for (int u = 3; u <= 16; u++) {
            dueLoop("G" + "A".repeat(u) + "C", "(" + ".".repeat(u) + ")", due[u - 3]);
        }
    }

    private static void weakKinds() {
        CHECK.sentence("Terms, kinds 2 to 5 are weak, 5 more if the pair is weak");
        dueLoop("CAAAG", "(...)", 54);
        dueLoop("GAAAC", "(...)", 54);
        dueLoop("GAAAU", "(...)", 59);
        dueLoop("UAAAG", "(...)", 59);
        dueLoop("AAAAU", "(...)", 59);
        dueLoop("UAAAA", "(...)", 59);
        dueLoop("A" + "A".repeat(8) + "U", "(........)", 60);
        dueLoop("A" + "A".repeat(9) + "U", "(.........)", 69);
    }

    private static void firmHairpin() {
        CHECK.sentence("Terms, but 26 if the bases from i to j are C U U C G G");
        dueLoop("CUUCGG", "(....)", 26);
        dueLoop("GUUCGC", "(....)", 56);
        for (int place = 1; place <= 4; place++) {
            char[] bases = "CUUCGG".toCharArray();
            for (char c : "ACGU".toCharArray()) {
                bases[place] = c;
                dueLoop(new String(bases), "(....)", new String(bases).equals("CUUCGG") ? 26 : 56);
            }
        }
        dueLoop("CUUCGGG", "(.....)", 57);
        dueLoop("CUUCG", "(...)", 54);
        dueEnergy("ACUUCGGU", ".(....).", 26);
        dueEnergy("CUUCGGAAAAAACUUCGG", "(....)......(....)", 52);
    }

    private static void bothZero() {
        CHECK.sentence("Terms, c is 1, a and b 0: the stack");
        dueLoop("GGAAACC", "((...))", -33);
        dueLoop("GCAAAGC", "((...))", -34);
        dueLoop("CGAAACG", "((...))", -24);
        dueLoop("CCAAAGG", "((...))", -33);
        dueLoop("GUAAAGU", "((...))", 13);
        dueLoop("GGAAAUU", "((...))", -5);
        dueLoop("UUAAAAA", "((...))", -9);
        dueLoop("UAAAAUA", "((...))", -13);
    }

    private static void oneZero() {
        CHECK.sentence("Terms, c is 1, one of them 0: for the other 1, 2, 3, for more");
        int[] due = {-33, 38 - 33, 28, 32, 36, 40, 44, 48, 52, 56, 60, 64};
        for (int n = 0; n <= 11; n++) {
            String unpaired = "A".repeat(n);
            String dots = ".".repeat(n);
            dueLoop("G" + unpaired + "GAAACC", "(" + dots + "(...))", due[n]);
            dueLoop("GGAAAC" + unpaired + "C", "((...)" + dots + ")", due[n]);
            // Weak pairs count by the stack alone, here row UA, column UA.
            int weak = n == 0 ? -13 : n == 1 ? 38 - 13 : due[n];
            dueLoop("U" + unpaired + "AAAAUA", "(" + dots + "(...))", weak);
            dueLoop("UAAAAU" + unpaired + "A", "((...)" + dots + ")", weak);
        }
    }

    private static void dueInterior(int a, int b, int want) {
        String text = "(" + ".".repeat(a) + "(...)" + ".".repeat(b) + ")";
        dueLoop("G" + "A".repeat(a) + "GAAAC" + "A".repeat(b) + "C", text, want);
    }

    private static void neitherZero() {
        CHECK.sentence("Terms, c is 1, neither 0: for a + b = 2, 3, 4, 5, for more 15 + a + b, 6 for each");
        dueInterior(1, 1, 5);
        dueInterior(1, 2, 16 + 6);
        dueInterior(2, 1, 16 + 6);
        dueInterior(2, 2, 11);
        dueInterior(1, 3, 11 + 12);
        dueInterior(3, 1, 11 + 12);
        dueInterior(2, 3, 20 + 6);
        dueInterior(4, 1, 20 + 18);
        dueInterior(3, 3, 21);
        dueInterior(2, 4, 21 + 12);
        dueInterior(4, 3, 22 + 6);
        dueInterior(4, 4, 23);
        dueInterior(5, 6, 26 + 6);
    }

    private static void atMostThirty() {
        CHECK.sentence("Terms, 6 more for each that the one is greater than the other, but at most 30");
        int[] due = {5, 22, 23, 38, 21 + 24, 22 + 30, 23 + 30, 24 + 30, 25 + 30, 26 + 30};
        for (int n = 1; n <= 10; n++) {
            dueInterior(1, n, due[n - 1]);
            dueInterior(n, 1, due[n - 1]);
        }
        dueInterior(2, 7, 24 + 30);
        dueInterior(2, 8, 25 + 30);
        dueInterior(2, 6, 23 + 24);
        // The 7 for each weak one come on top of the 30.
        dueLoop("AAGAAACAAAAAAAU", "(.(...).......)", 23 + 30 + 7);
        dueLoop("AAUAAAAAAAAAAAU", "(.(...).......)", 23 + 30 + 14);
    }

    private static void weakOfTwo() {
        CHECK.sentence("Terms, 7 more for each weak one of the two pairs");
        dueLoop("GAGAAACAC", "(.(...).)", 5);
        dueLoop("GACAAAGAC", "(.(...).)", 5);
        for (String weak : new String[] {"GU", "UG", "AU", "UA"}) {
            char first = weak.charAt(0);
            char second = weak.charAt(1);
            dueLoop(first + "AGAAACA" + second, "(.(...).)", 5 + 7);
            dueLoop("CA" + first + "AAA" + second + "AG", "(.(...).)", 5 + 7);
            dueLoop(first + "A" + first + "AAA" + second + "A" + second, "(.(...).)", 5 + 14);
        }
    }

    private static void twoOrMoreWithin() {
        CHECK.sentence("Terms, c is 2 or more: 34 + 4 (c + 1)");
        dueLoop("GAAAAAAAAAAC", "(..........)", 64);
        dueLoop("GGAAACAAAAAC", "((...).....)", 40);
        dueLoop("GGAAACGAAACC", "((...)(...))", 34 + 12);
        dueLoop("GGAAACGAAACGAAACC", "((...)(...)(...))", 34 + 16);
        // Pairs that are in another one within it are none of its own.
        dueLoop("GGGAAACCC", "(((...)))", -33);
        dueLoop("GGGAAACCGAAACC", "(((...))(...))", 34 + 12);
        dueLoop("GAGGAAACGAAACCAC", "(.((...)(...)).)", 5);
    }

    private static void unpairedOfBranched() {
        CHECK.sentence("Terms, c is 2 or more: + u, the places that are in no pair within it");
        String[] unpaired = {"", "A", "AA", "AAA", "AAAA", "AAAAA", "AAAAAA"};
        for (String some : unpaired) {
            String dots = ".".repeat(some.length());
            int due = 34 + 12 + some.length();
            dueLoop("G" + some + "GAAACGAAACC", "(" + dots + "(...)(...))", due);
            dueLoop("GGAAAC" + some + "GAAACC", "((...)" + dots + "(...))", due);
            dueLoop("GGAAACGAAAC" + some + "C", "((...)(...)" + dots + ")", due);
            // Longer hairpins within it add nothing to it.
            dueLoop("GGAAA" + some + "CGAAACC", "((..." + dots + ")(...))", 34 + 12);
        }
    }

    private static void weakOfBranched() {
        CHECK.sentence("Terms, c is 2 or more: 5 more for each weak one of the c + 1 pairs");
        dueLoop("GGAAACGAAACC", "((...)(...))", 46);
        dueLoop("GGAAACGAAACU", "((...)(...))", 51);
        dueLoop("GGAAAUGAAACC", "((...)(...))", 51);
        dueLoop("GGAAACGAAAUC", "((...)(...))", 51);
        dueLoop("GGAAAUGAAAUC", "((...)(...))", 56);
        dueLoop("GGAAAUGAAAUU", "((...)(...))", 61);
        dueLoop("UAAAAUUAAAAGAAAUG", "((...)(...)(...))", 34 + 16 + 20);
    }

    private static void weakInNoOther() {
        CHECK.sentence("Terms, 5 for each weak pair that is in no other one");
        dueEnergy("GAAAC", "(...)", 54);
        dueEnergy("GAAAU", "(...)", 59 + 5);
        dueEnergy("GGAAAUC", "((...))", -15 + 59);
        dueEnergy("UGAAACG", "((...))", -14 + 54 + 5);
        dueEnergy("GGAAAUU", "((...))", -5 + 59 + 5);
        dueEnergy("GAAAUGAAAU", "(...)(...)", 2 * (59 + 5));
        dueEnergy("GAAACGAAAU", "(...)(...)", 54 + 59 + 5);
        // Directly behind a pair it is in no other one; directly within, it is.
        dueEnergy("GGAAACCGAAAU", "((...))(...)", -33 + 54 + 59 + 5);
        dueEnergy("GGAAACGAAAUC", "((...)(...))", 51 + 54 + 59);
    }

    private static void noPairsAtFirst() {
        CHECK.sentence("Terms, THE STRUCTURE (no pairs at first)");
        FoldedStrand strand = Check.strand("GGGAAACCC");
        CHECK.due("energy()", strand.energy(), 0);
        for (int i = 0; i < 9; i++) {
            CHECK.due("partner(" + i + ")", strand.partner(i), BAD);
            CHECK.due("loop(" + i + ")", strand.loop(i), 0);
        }
        CHECK.due("read()", Check.read(strand, "(((...)))"), 3);
        CHECK.due("energy() then", strand.energy(), -12);
    }

    private static void energyOfNoPairs() {
        CHECK.sentence("Promise 13, the energy of THE STRUCTURE, also when it has no pairs");
        CHECK.due("no bases, energy()", new FoldedStrand().energy(), 0);
        FoldedStrand strand = Check.strand("GAAAC");
        CHECK.due("before, energy()", strand.energy(), 0);
        CHECK.due("read() of (...)", Check.read(strand, "(...)"), 1);
        CHECK.due("energy()", strand.energy(), 54);
        CHECK.due("read() of .....", Check.read(strand, "....."), 0);
        CHECK.due("energy() then", strand.energy(), 0);
    }

    /** A pair from the first place to the last of 18, with two pairs and unpaired places within. */
    private static FoldedStrand eighteen() {
        FoldedStrand strand = Check.strand("GAGAAACAGAAACAAAAC");
        CHECK.due("read()", Check.read(strand, "(.(...).(...)....)"), 3);
        return strand;
    }

    private static void partnerOfPaired() {
        CHECK.sentence("Promise 14, BAD when it is not paired");
        FoldedStrand strand = eighteen();
        int[] due = {17, BAD, 6, BAD, BAD, BAD, 2, BAD, 12, BAD, BAD, BAD, 8, BAD, BAD, BAD, BAD, 0};
        for (int i = 0; i < due.length; i++) {
            CHECK.due("partner(" + i + ")", strand.partner(i), due[i]);
        }
    }

    private static void partnerOutside() {
        CHECK.sentence("Promise 14, BAD when there is none such");
        FoldedStrand strand = eighteen();
        CHECK.due("partner(-1)", strand.partner(-1), BAD);
        CHECK.due("partner(0)", strand.partner(0), 17);
        CHECK.due("partner(17)", strand.partner(17), 0);
        CHECK.due("partner(18)", strand.partner(18), BAD);
        for (int i : FAR) {
            CHECK.due("partner(" + i + ")", strand.partner(i), BAD);
            CHECK.due("no bases, partner(" + i + ")", new FoldedStrand().partner(i), BAD);
        }
        FoldedStrand five = Check.strand("GAAAC");
        CHECK.due("read()", Check.read(five, "(...)"), 1);
        CHECK.due("five, partner(4)", five.partner(4), 0);
        CHECK.due("five, partner(5)", five.partner(5), BAD);
        CHECK.due("no bases, partner(0)", new FoldedStrand().partner(0), BAD);
    }

    private static void loopOfFirstPlaces() {
        CHECK.sentence("Promise 15, the pair whose first place is i; 0 when there is none such");
        FoldedStrand strand = eighteen();
        int[] due = {34 + 12 + 6, 0, 54, 0, 0, 0, 0, 0, 54, 0, 0, 0, 0, 0, 0, 0, 0, 0};
        for (int i = 0; i < due.length; i++) {
            CHECK.due("loop(" + i + ")", strand.loop(i), due[i]);
        }
    }

    private static void loopOutside() {
        CHECK.sentence("Promise 15, 0 when there is none such, outside the strand");
        FoldedStrand strand = eighteen();
        CHECK.due("loop(-1)", strand.loop(-1), 0);
        CHECK.due("loop(0)", strand.loop(0), 52);
        CHECK.due("loop(18)", strand.loop(18), 0);
        for (int i : FAR) {
            CHECK.due("loop(" + i + ")", strand.loop(i), 0);
            CHECK.due("no bases, loop(" + i + ")", new FoldedStrand().loop(i), 0);
        }
        CHECK.due("no bases, loop(0)", new FoldedStrand().loop(0), 0);
        // The last place that a pair can begin at.
        FoldedStrand last = Check.strand("A".repeat(13) + "GAAAC");
        CHECK.due("read()", Check.read(last, ".............(...)"), 1);
        CHECK.due("loop(12)", last.loop(12), 0);
        CHECK.due("loop(13)", last.loop(13), 54);
        CHECK.due("loop(14)", last.loop(14), 0);
        CHECK.due("loop(17)", last.loop(17), 0);
    }

    private static void behindALongerStrand() {
        CHECK.sentence("Promises 14 and 15, none such of a longer strand before");
        FoldedStrand strand = eighteen();
        CHECK.due("clear()", strand.clear(), 18);
        Check.append(strand, "GAAAC");
        CHECK.due("read()", Check.read(strand, "(...)"), 1);
        int[] partners = {4, BAD, BAD, BAD, 0};
        for (int i = 0; i < 18; i++) {
            CHECK.due("partner(" + i + ")", strand.partner(i), i < 5 ? partners[i] : BAD);
            CHECK.due("loop(" + i + ")", strand.loop(i), i == 0 ? 54 : 0);
        }
    }
}
