/** Promises 11 and 12: type and read. */
public final class ReadTest {
    private static final Check CHECK = new Check();

    public static void main(String[] args) {
        whichCharacters();
        atMostTwenty();
        structures();
        firstWrongPlaces();
        withoutBases();
        longestTexts();
        nothingIsTypedBehindRead();
        failureLeavesTheStructure();
        typingLeavesTheRest();
        CHECK.finish();
    }

    private static void whichCharacters() {
        for (int c : Check.someCharacters()) {
            FoldedStrand strand = new FoldedStrand();
            boolean isTyped = c >= 32 && c <= 126;
            CHECK.due("type(" + c + ")", strand.type((char) c), isTyped);
            CHECK.due("read behind type(" + c + ")", strand.read(), isTyped ? -10 : 0);
        }
    }

    private static void atMostTwenty() {
        FoldedStrand strand = Check.strand("A");
        strand.type('.');
        for (int count = 2; count <= 20; count++) {
            CHECK.due("character " + count, strand.type('('), true);
        }
        CHECK.due("character 21", strand.type('.'), false);
        CHECK.due("character 22", strand.type('x'), false);
        CHECK.due("read of 20", strand.read(), -11);
        CHECK.due("character 1 again", strand.type('.'), true);
        CHECK.due("read of 1", strand.read(), 0);
    }

    private static void due(String bases, String text, int want) {
        CHECK.due(bases + ": read of " + text, Check.read(Check.strand(bases), text), want);
    }

    private static void structures() {
        due("GGGAAACCC", ".........", 0);
        due("GGGAAACCC", "(((...)))", 3);
        due("GGGAAACCC", "(.(...)).", 2);
        due("GAAACGAAAC", "(...)(...)", 2);
        due("GGAAACGAAACC", "((...)(...))", 3);
        due("AAAAUGUGGGCGGGUUAAAU".substring(0, 18), "..................", 0);
    }

    private static void firstWrongPlaces() {
        due("GGGAAACCC", "", -10);
        due("GGGAAACCC", "........", -18);
        due("GGGAAACCC", "(((...))", -18);
        due("GGGAAACCC", "..........", -19);
        due("GGGAAACCC", ".........(", -19);
        due("GGGAAACCC", ".........)", -19);
        due("GGGAAACCC", ".........x", -19);
        due("GGGAAACCC", "(((...))).......", -19);
        due("GGGAAACCC", "((....)..", -19);
        due("GGGAAACCC", "(........", -19);
        due("GGGAAACCC", "((....)...", -19);
        due("GGGAAACCC", ")........", -10);
        due("GGGAAACCC", "(.....))x", -17);
        due("GGGAAACCC", "(((...))))", -19);
        due("GGGAAACCC", "x........", -10);
        due("GGGAAACCC", "....[...]", -14);
        due("GGGAAACCC", ".... ....", -14);
        due("GGGAAACCC", "(.).xxxxx", -12);
        // Bases that pair, but three places apart; then four apart, but bases that do not pair.
        due("GGGCCC", "(..)..", -13);
        due("GAAAAC", "(...).", -14);
        due("CAAAC", "(...)", -14);
        // A closing bracket belongs to the last open one, even when an earlier one could pair.
        due("GAGAAACC", "(.(...))", 2);
        due("GAAAAACC", "(.(...))", -16);
        due("GAAAAACC", "(.....).", 1);
    }

    private static void withoutBases() {
        due("", "", 0);
        due("", ".", -10);
        due("", "(", -10);
        due("", ")", -10);
        due("", "x", -10);
    }

    private static void longestTexts() {
        String bases = "GGGGGGGAAAACCCCCCC";
        due(bases, "(((((((....)))))))", 7);
        due(bases, "(((((((....))))))", -27);
        due(bases, "((((((((...)))))))", -21);
        due(bases, "((((((.....)))))))", -27);
        due(bases, "((((((((((((((((((", -28);
        due(bases, "((((((((((((((((((((", -28);
        due(bases, "...................", -28);
        due(bases, "....................", -28);
        due(bases, "(((((((....)))))).", -28);
    }

    private static void nothingIsTypedBehindRead() {
        FoldedStrand strand = Check.strand("GAAAC");
        CHECK.due("a structure", Check.read(strand, "(...)"), 1);
        CHECK.due("nothing typed behind it", strand.read(), -10);
        CHECK.due("no structure", Check.read(strand, "..x.."), -12);
        CHECK.due("nothing typed behind it either", Check.read(strand, "....."), 0);
    }

    private static void failureLeavesTheStructure() {
        FoldedStrand strand = Check.strand("GGGAAACCC");
        Check.read(strand, "(((...)))");
        for (String text : new String[] {"", ".((...))", ".((...)).)", "(........", "(((...)))."}) {
            CHECK.due("read of " + text + " fails", Check.read(strand, text) <= -10, true);
            CHECK.due("energy behind " + text, strand.energy(), -12);
            CHECK.due("partner(2) behind " + text, strand.partner(2), 6);
        }
        CHECK.due("another structure", Check.read(strand, "........."), 0);
        CHECK.due("partner(2) is gone", strand.partner(2), -1);
        CHECK.due("energy is gone", strand.energy(), 0);
    }

    private static void typingLeavesTheRest() {
        FoldedStrand strand = Check.strand("GGGAAACCC");
        strand.list(12);
        strand.take(0);
        strand.type('.');
        CHECK.due("energy behind type", strand.energy(), -12);
        CHECK.due("read of one", strand.read(), -11);
        CHECK.due("the list behind read", strand.energyOf(0), -12);
        CHECK.due("take(1) behind read", strand.take(1), 0);
        CHECK.due("read of another", Check.read(strand, "(((...)))"), 3);
        CHECK.due("the list behind that", strand.take(1), 0);
        strand.type('.');
        Check.append(strand, "A");
        CHECK.due("what was typed before a base counts", Check.read(strand, "........."), 0);
    }
}
