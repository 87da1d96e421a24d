/** The edges of the strand: its 18 bases, promises 1 to 3, and when the list and THE STRUCTURE become empty. */
public final class StrandEdgesTest {
    private static final Check CHECK = new Check();
    private static final String EIGHTEEN = "AAAAAAGGGAAACCCAAA";
    // Next to the four letters, the same letters small, and with the same low byte.
    private static final char[] NO_BASES = {
        0, ' ', '(', ')', '.', '@', 'B', 'D', 'F', 'H', 'T', 'V', 'a', 'c', 'g', 'u', 'A' + 128, 'A' + 256, 'C' + 256,
        'G' + 512, 'U' + 65280, 65535
    };

    public static void main(String[] args) {
        noneAtFirst();
        letters();
        eighteen();
        refusedLetterChangesNothing();
        nineteenthChangesNothing();
        refusedFirstLetterChangesNothing();
        baseEmptiesTheList();
        baseEmptiesTheStructure();
        clearTellsHowMany();
        clearEmptiesTheList();
        clearEmptiesTheStructure();
        clearWithoutBases();
        clearAndTheSameBases();
        fiveHundredAndTwelveCalls();
        CHECK.finish();
    }

    private static void noneAtFirst() {
        CHECK.sentence("Promise 1, no bases");
        CHECK.due("new, clear()", new FoldedStrand().clear(), 0);
        CHECK.due("new, ways()", new FoldedStrand().ways(), 1);
        CHECK.due("new, read() of nothing", new FoldedStrand().read(), 0);
        CHECK.due("new, read() of one", Check.read(new FoldedStrand(), "."), -10);
        CHECK.due("new, take(0)", new FoldedStrand().take(0), FoldedStrand.BAD);
        CHECK.due("new, energy()", new FoldedStrand().energy(), 0);
        CHECK.due("one base, clear()", Check.strand("A").clear(), 1);
        CHECK.due("one base, read() of nothing", Check.strand("A").read(), -10);
        CHECK.due("one base, read() of one", Check.read(Check.strand("A"), "."), 0);
    }

    private static void letters() {
        CHECK.sentence("Promise 2, false when c is not A, C, G or U");
        FoldedStrand strand = new FoldedStrand();
        for (char c : Check.everyCharacter()) {
            // An object answers 512 calls.
            if (c % 128 == 0) {
                strand = new FoldedStrand();
            }
            boolean isBase = c == 'A' || c == 'C' || c == 'G' || c == 'U';
            CHECK.due("base(" + (int) c + ")", strand.base(c), isBase);
            CHECK.due("clear() behind base(" + (int) c + ")", strand.clear(), isBase ? 1 : 0);
        }
    }

    private static void eighteen() {
        CHECK.sentence("Promise 2, false when it has 18");
        for (char c : "ACGU".toCharArray()) {
            FoldedStrand strand = new FoldedStrand();
            for (int number = 1; number <= 18; number++) {
                CHECK.due("base " + number + ", " + c, strand.base(c), true);
            }
            for (int number = 19; number <= 40; number++) {
                CHECK.due("base " + number + ", " + c, strand.base(c), false);
            }
            CHECK.due("base 19, x", strand.base('x'), false);
            CHECK.due("clear()", strand.clear(), 18);
            CHECK.due("a first base again", strand.base(c), true);
        }
    }

    /** A list of two, a STRUCTURE of three pairs, and three characters typed. */
    private static FoldedStrand busy(String bases) {
        FoldedStrand strand = Check.strand(bases);
        CHECK.due(bases + ", list(12)", strand.list(12), 2);
        CHECK.due(bases + ", take(0)", strand.take(0), 3);
        for (int count = 0; count < 3; count++) {
            CHECK.due("type(.)", strand.type('.'), true);
        }
        return strand;
    }

    private static void dueRefused(FoldedStrand strand, char c, int size) {
        String before = Check.state(strand);
        CHECK.due("base(" + (int) c + ")", strand.base(c), false);
        CHECK.due("all answers behind base(" + (int) c + ")", Check.state(strand), before);
        CHECK.due("take(1) behind base(" + (int) c + ")", strand.take(1), 0);
        CHECK.due("read() with what was typed before", Check.read(strand, ".".repeat(size - 3)), 0);
        CHECK.due("clear() behind base(" + (int) c + ")", strand.clear(), size);
    }

    private static void refusedLetterChangesNothing() {
        CHECK.sentence("Promise 2, changing nothing, when c is not A, C, G or U");
        for (char c : NO_BASES) {
            dueRefused(busy("GGGAAACCC"), c, 9);
        }
    }

    private static void nineteenthChangesNothing() {
        CHECK.sentence("Promise 2, changing nothing, when it has 18");
        for (char c : "ACGUx".toCharArray()) {
            dueRefused(busy(EIGHTEEN), c, 18);
        }
    }

    private static void refusedFirstLetterChangesNothing() {
        CHECK.sentence("Promise 2, changing nothing, also when there are no bases");
        FoldedStrand strand = new FoldedStrand();
        CHECK.due("list(0)", strand.list(0), 1);
        CHECK.due("base(T)", strand.base('T'), false);
        CHECK.due("take(0), the list is not empty", strand.take(0), 0);
        CHECK.due("base(A)", strand.base('A'), true);
        CHECK.due("take(0), the list is empty", strand.take(0), FoldedStrand.BAD);
    }

    private static void dueNoList(String when, FoldedStrand strand) {
        CHECK.due(when + ", energyOf(0)", strand.energyOf(0), 0);
        CHECK.due(when + ", at(0, 0)", strand.at(0, 0), FoldedStrand.BAD);
        CHECK.due(when + ", take(0)", strand.take(0), FoldedStrand.BAD);
        CHECK.due(when + ", take(1)", strand.take(1), FoldedStrand.BAD);
    }

    private static void dueNoPairs(String when, FoldedStrand strand) {
        CHECK.due(when + ", energy()", strand.energy(), 0);
        for (int i = 0; i < 18; i++) {
            CHECK.due(when + ", partner(" + i + ")", strand.partner(i), FoldedStrand.BAD);
            CHECK.due(when + ", loop(" + i + ")", strand.loop(i), 0);
        }
    }

    private static void baseEmptiesTheList() {
        CHECK.sentence("Terms, THE LIST becomes empty when the strand changes, by base");
        FoldedStrand strand = busy("GGGAAACCC");
        CHECK.due("before, energyOf(0)", strand.energyOf(0), -12);
        CHECK.due("base(A)", strand.base('A'), true);
        dueNoList("behind base", strand);
        FoldedStrand last = Check.strand(EIGHTEEN.substring(0, 17));
        CHECK.due("17 bases, list(12)", last.list(12), 2);
        CHECK.due("the 18th base", last.base('A'), true);
        dueNoList("behind the 18th base", last);
    }

    private static void baseEmptiesTheStructure() {
        CHECK.sentence("Terms, THE STRUCTURE becomes empty when the strand changes, by base");
        FoldedStrand taken = busy("GGGAAACCC");
        CHECK.due("before, partner(0)", taken.partner(0), 8);
        CHECK.due("base(A)", taken.base('A'), true);
        dueNoPairs("behind base", taken);
        FoldedStrand typed = Check.strand(EIGHTEEN.substring(0, 17));
        CHECK.due("17 bases, read()", Check.read(typed, "......(((...))).."), 3);
        CHECK.due("the 18th base", typed.base('A'), true);
        dueNoPairs("behind the 18th base", typed);
    }

    private static void clearTellsHowMany() {
        CHECK.sentence("Promise 3, all bases go (how many there were)");
        FoldedStrand strand = new FoldedStrand();
        for (int count = 0; count <= 18; count++) {
            Check.append(strand, EIGHTEEN.substring(0, count));
            CHECK.due("clear() of " + count, strand.clear(), count);
            CHECK.due("clear() behind it", strand.clear(), 0);
            CHECK.due("ways() behind it", strand.ways(), 1);
        }
    }

    private static void clearEmptiesTheList() {
        CHECK.sentence("Promise 3, the list is empty then");
        FoldedStrand strand = busy("GGGAAACCC");
        CHECK.due("before, energyOf(0)", strand.energyOf(0), -12);
        CHECK.due("clear()", strand.clear(), 9);
        dueNoList("behind clear", strand);
    }

    private static void clearEmptiesTheStructure() {
        CHECK.sentence("Promise 3, THE STRUCTURE is empty then");
        FoldedStrand taken = busy("GGGAAACCC");
        CHECK.due("before, energy()", taken.energy(), -12);
        CHECK.due("clear()", taken.clear(), 9);
        dueNoPairs("behind clear", taken);
        FoldedStrand typed = Check.strand("GAAAC");
        CHECK.due("read()", Check.read(typed, "(...)"), 1);
        CHECK.due("before, energy()", typed.energy(), 54);
        CHECK.due("clear()", typed.clear(), 5);
        dueNoPairs("behind clear", typed);
    }

    private static void clearWithoutBases() {
        CHECK.sentence("Promise 3, also when there were none");
        FoldedStrand strand = new FoldedStrand();
        CHECK.due("list(0)", strand.list(0), 1);
        CHECK.due("before, take(0)", strand.take(0), 0);
        CHECK.due("clear()", strand.clear(), 0);
        dueNoList("behind clear", strand);
        dueNoPairs("behind clear", strand);
        CHECK.due("list(0) again", strand.list(0), 1);
        CHECK.due("take(0) again", strand.take(0), 0);
    }

    private static void clearAndTheSameBases() {
        CHECK.sentence("Promise 3, what was before is gone also when the same bases come again");
        FoldedStrand strand = busy("GGGAAACCC");
        CHECK.due("clear()", strand.clear(), 9);
        Check.append(strand, "GGGAAACCC");
        dueNoList("behind clear and the same bases", strand);
        dueNoPairs("behind clear and the same bases", strand);
    }

    private static void fiveHundredAndTwelveCalls() {
        CHECK.sentence("What it is, an object is used for at most 512 calls");
        FoldedStrand strand = new FoldedStrand();
        // 23 rounds of 22 calls, and 6 calls.
        for (int round = 0; round < 23; round++) {
            for (char c : "CCCCUUUUUGGGGGGGGG".toCharArray()) {
                CHECK.due("round " + round + ", base(" + c + ")", strand.base(c), true);
            }
            CHECK.due("round " + round + ", ways()", strand.ways(), 13442);
            CHECK.due("round " + round + ", list(300)", strand.list(300), FoldedStrand.FULL);
            CHECK.due("round " + round + ", least()", strand.least() < 0, true);
            CHECK.due("round " + round + ", clear()", strand.clear(), 18);
        }
        for (char c : "GAAAC".toCharArray()) {
            CHECK.due("base(" + c + ")", strand.base(c), true);
        }
        CHECK.due("call 512, list(54)", strand.list(54), 2);
    }
}
