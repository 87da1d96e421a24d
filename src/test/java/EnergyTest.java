/** Promises 13 to 15: energy, partner and loop, with every line of the energy table. */
public final class EnergyTest {
    private static final Check CHECK = new Check();
    private static final String[] KINDS = {"CG", "GC", "GU", "UG", "AU", "UA"};
    private static final String STACKS = "-24 -33 -21 -14 -21 -21 / -33 -34 -25 -15 -22 -24 / -21 -25 13 -5 -14 -13"
        + " / -14 -15 -5 3 -6 -10 / -21 -22 -14 -6 -11 -9 / -21 -24 -13 -10 -9 -13";

    public static void main(String[] args) {
        hairpins();
        firmHairpin();
        stacks();
        bulges();
        interiors();
        branchedLoops();
        pairsInNoOther();
        partners();
        loops();
        CHECK.finish();
    }

    private static boolean weak(String kind) {
        return !kind.equals("CG") && !kind.equals("GC");
    }

    private static void dueLoop(String bases, String text, int first, int want) {
        FoldedStrand strand = Check.strand(bases);
        Check.read(strand, text);
        CHECK.due(bases + " " + text + ": loop(" + first + ")", strand.loop(first), want);
    }

    private static void dueEnergy(String bases, String text, int want) {
        FoldedStrand strand = Check.strand(bases);
        Check.read(strand, text);
        CHECK.due(bases + " " + text + ": energy", strand.energy(), want);
    }

    private static void hairpins() {
        int[] due = {54, 56, 57, 54, 60, 55, 64, 64, 64, 64, 64, 64, 64, 64};
        for (String kind : KINDS) {
            for (int u = 3; u <= 16; u++) {
                String bases = kind.charAt(0) + "A".repeat(u) + kind.charAt(1);
                String text = "(" + ".".repeat(u) + ")";
                dueLoop(bases, text, 0, due[u - 3] + (weak(kind) ? 5 : 0));
                dueEnergy(bases, text, due[u - 3] + (weak(kind) ? 10 : 0));
            }
        }
    }

    private static void firmHairpin() {
        dueEnergy("CUUCGG", "(....)", 26);
        dueEnergy("AACUUCGGAA", "..(....)..", 26);
        for (String bases : new String[] {"GUUCGC", "CAUCGG", "CUACGG", "CUUAGG", "CUUCAG"}) {
            dueEnergy(bases, "(....)", 56);
        }
        dueEnergy("UUUCGG", "(....)", 66);
        dueEnergy("CUUCGGG", "(.....)", 57);
        dueEnergy("CUUCGG", "(...).", 54);
        dueEnergy("CCUUCGGG", "((....))", -33 + 26);
    }

    private static void stacks() {
        String[] rows = STACKS.split(" / ");
        for (int r = 0; r < 6; r++) {
            for (int s = 0; s < 6; s++) {
                int stack = Integer.parseInt(rows[r].split(" ")[s]);
                dueWithOne(KINDS[r], KINDS[s], 0, 0, stack);
                dueWithOne(KINDS[r], KINDS[s], 1, 0, 38 + stack);
                dueWithOne(KINDS[r], KINDS[s], 0, 1, 38 + stack);
            }
        }
    }

    /** inner names the inner pair's bases from its second place to its first. */
    private static void dueWithOne(String outer, String inner, int a, int b, int want) {
        String bases = outer.charAt(0) + "A".repeat(a) + inner.charAt(1) + "AAA" + inner.charAt(0) + "A".repeat(b)
            + outer.charAt(1);
        dueLoop(bases, "(" + ".".repeat(a) + "(...)" + ".".repeat(b) + ")", 0, want);
    }

    private static void bulges() {
        int[] due = {28, 32, 36, 40, 44, 48, 52, 56, 60, 64};
        for (int n = 2; n <= 11; n++) {
            for (String outer : KINDS) {
                dueWithOne(outer, "AU", n, 0, due[n - 2]);
                dueWithOne(outer, "GC", 0, n, due[n - 2]);
            }
        }
    }

    private static void interiors() {
        int[][] due = {
            {1, 1, 5}, {1, 2, 22}, {2, 2, 11}, {1, 3, 23}, {2, 3, 26}, {1, 4, 38}, {3, 3, 21}, {2, 4, 33}, {1, 5, 45},
            {3, 4, 28}, {2, 5, 40}, {1, 6, 52}, {4, 4, 23}, {2, 6, 47}, {1, 7, 53}, {2, 7, 54}, {1, 8, 54},
            {5, 5, 25}, {1, 9, 55}, {5, 6, 32}, {2, 9, 56}, {1, 10, 56}
        };
        for (int[] one : due) {
            for (String outer : KINDS) {
                for (String inner : KINDS) {
                    int more = (weak(outer) ? 7 : 0) + (weak(inner) ? 7 : 0);
                    dueWithOne(outer, inner, one[0], one[1], one[2] + more);
                    dueWithOne(outer, inner, one[1], one[0], one[2] + more);
                }
            }
        }
    }

    private static void branchedLoops() {
        dueLoop("GGAAACGAAACC", "((...)(...))", 0, 34 + 12);
        dueLoop("GAGAAACAGAAACAAAAC", "(.(...).(...)....)", 0, 34 + 12 + 6);
        dueLoop("GGAAACGAAACGAAACC", "((...)(...)(...))", 0, 34 + 16);
        dueLoop("GGAAACGAAACAGAAACC", "((...)(...).(...))", 0, 34 + 16 + 1);
        dueLoop("AGAAACGAAACU", "((...)(...))", 0, 34 + 12 + 5);
        dueLoop("GUAAAACAAAGC", "((...)(...))", 0, 34 + 12 + 5);
        dueLoop("GUAAAAGAAAUC", "((...)(...))", 0, 34 + 12 + 10);
        dueLoop("UUAAAAGAAAUG", "((...)(...))", 0, 34 + 12 + 15);
        dueLoop("UUAAAAGAAAUAAAAUG", "((...)(...)(...))", 0, 34 + 16 + 20);
        // The places inside the inner pairs are none of this loop's.
        dueLoop("GGAAAAACAGGAAACCAC", "((.....).((...)).)", 0, 34 + 12 + 2);
        dueEnergy("GAGCAAAGCAGCAAAGCC", "(.((...)).((...)))", 48 - 34 + 54 - 34 + 54);
        dueEnergy("UUAAAAGAAAUG", "((...)(...))", 61 + 59 + 59 + 5);
    }

    private static void pairsInNoOther() {
        dueEnergy("", "", 0);
        dueEnergy("GAAAC", ".....", 0);
        dueEnergy("GAAACAAAAU", "(...)(...)", 54 + 59 + 5);
        dueEnergy("GAAAUUAAAA", "(...)(...)", 59 + 5 + 59 + 5);
        dueEnergy("UAAAAUAAAGGAAAU", "(...)(...)(...)", 3 * 64);
        dueEnergy("GUAAAAC", "((...))", -22 + 59);
        dueEnergy("AGAAACU", "((...))", -21 + 54 + 5);
        dueEnergy("AGAAACUAUAAAAU", "((...))((...))", -21 + 54 + 5 - 11 + 59 + 5);
    }

    private static void partners() {
        FoldedStrand strand = Check.strand("GAAACGGAAACC");
        CHECK.due("read", Check.read(strand, "(...)((...))"), 3);
        int[] due = {4, -1, -1, -1, 0, 11, 10, -1, -1, -1, 6, 5};
        for (int i = 0; i < due.length; i++) {
            CHECK.due("partner(" + i + ")", strand.partner(i), due[i]);
        }
        for (int i : new int[] {-1, 12, 17, 18, 19, Integer.MIN_VALUE, Integer.MAX_VALUE}) {
            CHECK.due("partner(" + i + ")", strand.partner(i), -1);
        }
        FoldedStrand longest = Check.strand("GAAAAAAAAAAAAAAAAC");
        Check.read(longest, "(................)");
        CHECK.due("partner(17)", longest.partner(17), 0);
        CHECK.due("partner(0)", longest.partner(0), 17);
        CHECK.due("partner(18)", longest.partner(18), -1);
    }

    private static void loops() {
        FoldedStrand strand = Check.strand("GAAACGGAAACC");
        Check.read(strand, "(...)((...))");
        int[] due = {54, 0, 0, 0, 0, -33, 54, 0, 0, 0, 0, 0};
        for (int i = 0; i < due.length; i++) {
            CHECK.due("loop(" + i + ")", strand.loop(i), due[i]);
        }
        for (int i : new int[] {-1, 12, 17, 18, 19, Integer.MIN_VALUE, Integer.MAX_VALUE}) {
            CHECK.due("loop(" + i + ")", strand.loop(i), 0);
        }
        CHECK.due("energy", strand.energy(), 54 - 33 + 54);
        // The 5 for a weak pair in no other one is the structure's, not the loop's.
        dueLoop("AAAAU", "(...)", 0, 59);
    }
}
