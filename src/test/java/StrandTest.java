/** Promises 1 to 3: a new object, base and clear. */
public final class StrandTest {
    private static final Check CHECK = new Check();

    public static void main(String[] args) {
        newObject();
        whichBases();
        atMostEighteen();
        changesEmptyListAndStructure();
        refusedBaseChangesNothing();
        clearTellsHowMany();
        clearWithoutBases();
        clearLeavesWhatIsTyped();
        objectsAreApart();
        CHECK.finish();
    }

    private static void newObject() {
        FoldedStrand strand = new FoldedStrand();
        CHECK.due("new: most", strand.most(), 0);
        CHECK.due("new: least", strand.least(), 0);
        CHECK.due("new: ways", strand.ways(), 1);
        CHECK.due("new: energyOf(0)", strand.energyOf(0), 0);
        CHECK.due("new: at(0, 0)", strand.at(0, 0), -1);
        CHECK.due("new: take(0)", strand.take(0), -1);
        CHECK.due("new: energy", strand.energy(), 0);
        CHECK.due("new: partner(0)", strand.partner(0), -1);
        CHECK.due("new: loop(0)", strand.loop(0), 0);
        CHECK.due("new: read", strand.read(), 0);
        CHECK.due("new: clear", strand.clear(), 0);
    }

    private static void whichBases() {
        for (int c : Check.someCharacters()) {
            FoldedStrand strand = new FoldedStrand();
            boolean isBase = c == 'A' || c == 'C' || c == 'G' || c == 'U';
            CHECK.due("base(" + c + ")", strand.base((char) c), isBase);
            CHECK.due("clear behind base(" + c + ")", strand.clear(), isBase ? 1 : 0);
        }
    }

    private static void atMostEighteen() {
        FoldedStrand strand = Check.strand("GGGGGGGAAAACCCCCC");
        CHECK.due("18th base", strand.base('C'), true);
        for (char c : "ACGUx".toCharArray()) {
            CHECK.due("19th base " + c, strand.base(c), false);
        }
        CHECK.due("most of 18", strand.most(), 7);
        CHECK.due("clear of 18", strand.clear(), 18);
        CHECK.due("base after clear", strand.base('A'), true);
        CHECK.due("clear of 1", strand.clear(), 1);
    }

    private static FoldedStrand withListAndStructure() {
        FoldedStrand strand = Check.strand("GGGAAACCC");
        strand.list(0);
        strand.take(0);
        CHECK.due("taken: partner(0)", strand.partner(0), 8);
        return strand;
    }

    private static void dueEmpty(String when, FoldedStrand strand) {
        CHECK.due(when + ": energyOf(0)", strand.energyOf(0), 0);
        CHECK.due(when + ": at(0, 0)", strand.at(0, 0), -1);
        CHECK.due(when + ": take(0)", strand.take(0), -1);
        CHECK.due(when + ": energy", strand.energy(), 0);
        for (int i = 0; i < 18; i++) {
            CHECK.due(when + ": partner(" + i + ")", strand.partner(i), -1);
            CHECK.due(when + ": loop(" + i + ")", strand.loop(i), 0);
        }
    }

    private static void changesEmptyListAndStructure() {
        FoldedStrand longer = withListAndStructure();
        longer.base('A');
        dueEmpty("after base", longer);
        CHECK.due("least of GGGAAACCCA", longer.least(), -12);
        FoldedStrand none = withListAndStructure();
        CHECK.due("clear of 9", none.clear(), 9);
        dueEmpty("after clear", none);
        Check.append(none, "GGGAAACCC");
        dueEmpty("after clear and the same bases", none);
        CHECK.due("least of the same bases", none.least(), -12);
    }

    private static void refusedBaseChangesNothing() {
        FoldedStrand strand = withListAndStructure();
        CHECK.due("base(T)", strand.base('T'), false);
        CHECK.due("after base(T): energyOf(0)", strand.energyOf(0), -12);
        CHECK.due("after base(T): energy", strand.energy(), -12);
        CHECK.due("after base(T): text", Check.text(strand, 0), "(((...)))");
        CHECK.due("after base(T): ways", strand.ways(), 20);
        FoldedStrand whole = Check.strand("AAAAAAGGGAAACCCAAA");
        whole.list(0);
        whole.take(0);
        CHECK.due("19th base", whole.base('A'), false);
        CHECK.due("after the 19th base: energy", whole.energy(), -12);
        CHECK.due("after the 19th base: partner(6)", whole.partner(6), 14);
        CHECK.due("after the 19th base: take(0)", whole.take(0), 3);
    }

    private static void clearTellsHowMany() {
        FoldedStrand strand = new FoldedStrand();
        for (int count = 0; count <= 18; count++) {
            Check.append(strand, "ACGUACGUACGUACGUAC".substring(0, count));
            CHECK.due("clear of " + count, strand.clear(), count);
        }
        Check.append(strand, "CUUCGG");
        CHECK.due("other bases behind a clear: ways", strand.ways(), 4);
    }

    private static void clearWithoutBases() {
        FoldedStrand strand = new FoldedStrand();
        CHECK.due("list(0) without bases", strand.list(0), 1);
        CHECK.due("take(0) without bases", strand.take(0), 0);
        CHECK.due("clear without bases", strand.clear(), 0);
        CHECK.due("take(0) behind that", strand.take(0), -1);
    }

    private static void clearLeavesWhatIsTyped() {
        FoldedStrand strand = Check.strand("G");
        strand.type('.');
        strand.clear();
        Check.append(strand, "AC");
        strand.type('.');
        CHECK.due("read of what was typed before and behind clear", strand.read(), 0);
    }

    private static void objectsAreApart() {
        FoldedStrand one = withListAndStructure();
        FoldedStrand other = Check.strand("CUUCGG");
        CHECK.due("the other's ways", other.ways(), 4);
        CHECK.due("the one's ways", one.ways(), 20);
        CHECK.due("the other's energy", other.energy(), 0);
        CHECK.due("the one's energy", one.energy(), -12);
    }
}
