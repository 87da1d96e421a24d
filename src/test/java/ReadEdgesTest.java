/** The edges of promises 11 and 12: type and read. */
public final class ReadEdgesTest {
    private static final Check CHECK = new Check();
    private static final String BASES = "GGGAAACCC";

    public static void main(String[] args) {
        whichCharacters();
        refusedCharacterIsNotTyped();
        twenty();
        refusedTwentyFirstIsNotTyped();
        twentyAgain();
        typingChangesNothingElse();
        notOneOfThree();
        closingWithoutOpening();
        tooNear();
        basesOfNoKind();
        characterWithoutBase();
        baseWithoutCharacter();
        openingWithoutClosing();
        nothingTyped();
        firstOfSeveral();
        severalAtOnePlace();
        lastPlaces();
        nothingIsTypedThen();
        howManyPairs();
        failureLeavesTheStructure();
        CHECK.finish();
    }

    private static void due(String bases, String text, int want) {
        CHECK.due(bases + ", read() of " + text, Check.read(Check.strand(bases), text), want);
    }

    private static void whichCharacters() {
        CHECK.sentence("Promise 11, false when c is not 32 .. 126");
        FoldedStrand strand = new FoldedStrand();
        for (char c : Check.everyCharacter()) {
            // An object answers 512 calls.
            if (c % 128 == 0) {
                strand = new FoldedStrand();
            }
            boolean isTyped = c >= 32 && c <= 126;
            CHECK.due("type(" + (int) c + ")", strand.type(c), isTyped);
            CHECK.due("read() behind type(" + (int) c + ")", strand.read(), isTyped ? -10 : 0);
        }
    }

    private static void refusedCharacterIsNotTyped() {
        CHECK.sentence("Promise 11, false when c is not 32 .. 126: it is not typed");
        for (char c : new char[] {0, 9, 10, 31, 127, 128, '.' + 128, '.' + 256, '(' + 256, ')' + 512, 65535}) {
            FoldedStrand strand = Check.strand("GAAAC");
            for (char good : "(...)".toCharArray()) {
                CHECK.due("type(" + (int) c + ")", strand.type(c), false);
                CHECK.due("type(" + good + ")", strand.type(good), true);
            }
            CHECK.due("type(" + (int) c + ")", strand.type(c), false);
            CHECK.due("read()", strand.read(), 1);
        }
    }

    private static void twenty() {
        CHECK.sentence("Promise 11, false when 20 are typed");
        for (char c : new char[] {' ', '(', ')', '.', 'x', '~'}) {
            FoldedStrand strand = new FoldedStrand();
            for (int number = 1; number <= 20; number++) {
                CHECK.due("character " + number + ", " + c, strand.type(c), true);
            }
            for (int number = 21; number <= 45; number++) {
                CHECK.due("character " + number + ", " + c, strand.type(c), false);
            }
            CHECK.due("character 21, 31", strand.type((char) 31), false);
            CHECK.due("character 21, 127", strand.type((char) 127), false);
        }
    }

    private static void refusedTwentyFirstIsNotTyped() {
        CHECK.sentence("Promise 11, false when 20 are typed: they stay");
        FoldedStrand strand = Check.strand("A".repeat(18));
        for (int number = 1; number <= 20; number++) {
            CHECK.due("character " + number, strand.type('.'), true);
        }
        CHECK.due("character 21", strand.type('x'), false);
        // The place of the 19th, not the first one, which it would be had the 21st taken its place.
        CHECK.due("read()", strand.read(), -28);
    }

    private static void twentyAgain() {
        CHECK.sentence("Promise 11, at most 20, counted anew behind read");
        FoldedStrand strand = Check.strand("A");
        for (int round = 0; round < 3; round++) {
            for (int number = 1; number <= 20; number++) {
                CHECK.due("round " + round + ", character " + number, strand.type('.'), true);
            }
            CHECK.due("round " + round + ", character 21", strand.type('.'), false);
            CHECK.due("round " + round + ", read()", strand.read(), -11);
        }
        CHECK.due("a first character", strand.type('.'), true);
        CHECK.due("read() of it", strand.read(), 0);
    }

    private static void typingChangesNothingElse() {
        CHECK.sentence("Promise 11, types a character (and changes nothing else)");
        FoldedStrand strand = Check.strand(BASES);
        CHECK.due("list(12)", strand.list(12), 2);
        CHECK.due("take(0)", strand.take(0), 3);
        String before = Check.state(strand);
        CHECK.due("type(()", strand.type('('), true);
        CHECK.due("type(127)", strand.type((char) 127), false);
        CHECK.due("all answers behind type", Check.state(strand), before);
    }

    private static void notOneOfThree() {
        CHECK.sentence("Promise 12, the character is not ( ) or .");
        for (char c = 32; c <= 126; c++) {
            boolean isOneOfThree = c == '(' || c == ')' || c == '.';
            for (int place = 0; place < 9 && !isOneOfThree; place++) {
                due(BASES, ".".repeat(place) + c + ".".repeat(8 - place), -10 - place);
            }
        }
        due(BASES, ".........", 0);
        due(BASES, "(((...)))", 3);
    }

    private static void closingWithoutOpening() {
        CHECK.sentence("Promise 12, it is ) and no ( before it is without its )");
        due(BASES, ")........", -10);
        due(BASES, "........)", -18);
        due(BASES, "(.......)", 1);
        due(BASES, "(.....).)", -18);
        due(BASES, "((....).)", 2);
        due("GAAACC", "(...))", -15);
        due("GAAACC", "(....)", 1);
        due("GAAACGAAACC", "(...)(...))", -20);
        due("GAAACGAAACC", "(...)(....)", 2);
        // A ( behind it is of no use to it.
        due(BASES, "..)(.....", -12);
    }

    private static void tooNear() {
        CHECK.sentence("Promise 12, it is ), and its place and that of its ( can not pair: no more than 3 apart");
        due("GC", "()", -11);
        due("GAC", "(.)", -12);
        due("GAAC", "(..)", -13);
        due("GAAAC", "(...)", 1);
        due("GAAAAC", "(....)", 1);
        due("GGAACC", "((..))", -14);
        due("GGAAACC", "((...))", 2);
    }

    private static void basesOfNoKind() {
        CHECK.sentence("Promise 12, it is ), and its place and that of its ( can not pair: bases of no kind");
        due("GAAAC", "(...)", 1);
        due("GAAAU", "(...)", 1);
        due("GAAAA", "(...)", -14);
        due("GAAAG", "(...)", -14);
        due("CAAAU", "(...)", -14);
        due("AAAAC", "(...)", -14);
        // Its ( is the last one that is without its ), though an earlier one could pair.
        due("GAAAAAC", "((...))", -15);
        due("GAAAAAC", "((....)", -16);
        due("GAAAAAC", "(.....)", 1);
        due("GGAAAAC", "((...))", -15);
    }

    private static void characterWithoutBase() {
        CHECK.sentence("Promise 12, there is a character, but no base");
        for (int bases = 0; bases <= 18; bases++) {
            due("A".repeat(bases), ".".repeat(bases), 0);
            for (int more = 1; bases + more <= 20; more++) {
                due("A".repeat(bases), ".".repeat(bases + more), -10 - bases);
            }
            for (char c : "()x ".toCharArray()) {
                due("A".repeat(bases), ".".repeat(bases) + c, -10 - bases);
            }
        }
        due("GAAAC", "(....)", -15);
        due("GAAA", "(...)", -14);
    }

    private static void baseWithoutCharacter() {
        CHECK.sentence("Promise 12, there are no more characters, but a base");
        for (int bases = 1; bases <= 18; bases++) {
            for (int typed = 0; typed < bases; typed++) {
                due("A".repeat(bases), ".".repeat(typed), -10 - typed);
            }
            due("A".repeat(bases), ".".repeat(bases), 0);
        }
        due("GAAACA", "(...)", -15);
        due("GAAACA", "(...).", 1);
    }

    private static void openingWithoutClosing() {
        CHECK.sentence("Promise 12, there are no more characters, but a ( without its )");
        due("A", "(", -11);
        due("A", ".", 0);
        due("GAAAC", "(....", -15);
        due("GAAAC", "....(", -15);
        due("GAAAC", "(((((", -15);
        due("GGAAAC", "((...)", -16);
        due("GGAAAC", ".(...)", 1);
        due("GAAACG", "(...)(", -16);
        due("GGGGGGGAAAACCCCCCC", "(((((((....)))))).", -28);
        due("GGGGGGGAAAACCCCCCC", "(((((((....)))))))", 7);
    }

    private static void nothingTyped() {
        CHECK.sentence("Promise 12, nothing typed is the text of the structure of no bases alone");
        due("", "", 0);
        due("A", "", -10);
        due(BASES, "", -10);
    }

    private static void firstOfSeveral() {
        CHECK.sentence("Promise 12, the first place of which this is so");
        due(BASES, "..x..x...", -12);
        due(BASES, "..x.)....", -12);
        due(BASES, "..).x....", -12);
        due(BASES, "(.).x....", -12);
        due(BASES, "(.x.)....", -12);
        due(BASES, "(x", -11);
        due(BASES, "..x.................", -12);
        due(BASES, "(.......x.", -18);
        due(BASES, "(.........", -19);
        due(BASES, "(.......", -18);
        due(BASES, "(...)....", -14);
        due(BASES, "(...)...x.", -14);
    }

    private static void severalAtOnePlace() {
        CHECK.sentence("Promise 12, of one place it is no matter which of these");
        due("GAA", "...x", -13);
        due("GAA", "...)", -13);
        due("GAA", "(..)", -13);
        due("", "x", -10);
        due("", ")", -10);
        due("GA", "(", -11);
    }

    private static void lastPlaces() {
        CHECK.sentence("Promise 12, -10 - the first place, with 18 bases and up to 20 characters");
        String bases = "GGGGGGGAAAACCCCCCC";
        due(bases, "(((((((....))))))x", -27);
        due(bases, "(((((((....))))))", -27);
        due(bases, "(((((((....)))))))", 7);
        due(bases, "(((((((....))))))).", -28);
        due(bases, "(((((((....)))))))..", -28);
        due(bases, "(((((((....)))))))))", -28);
        due(bases, "((((((((((((((((((((", -28);
        due(bases, "....................", -28);
    }

    private static void nothingIsTypedThen() {
        CHECK.sentence("Promise 12, nothing is typed then, in any case");
        String[] texts = {
            "(...)", ".....", "", "x....", ")....", "(..).", "....)", "......", "(...).", "....", "(....",
            "....................", "((((((((((((((((((((", "xxxxxxxxxxxxxxxxxxxx"
        };
        for (String text : texts) {
            FoldedStrand strand = Check.strand("GAAAC");
            Check.read(strand, text);
            CHECK.due("read() behind that of " + text, strand.read(), -10);
            FoldedStrand again = Check.strand("GAAAC");
            Check.read(again, text);
            CHECK.due("read() of (...) behind that of " + text, Check.read(again, "(...)"), 1);
            FoldedStrand many = Check.strand("GAAAC");
            Check.read(many, text);
            CHECK.due("read() of 20 behind that of " + text, Check.read(many, ".".repeat(20)), -15);
        }
    }

    private static void howManyPairs() {
        CHECK.sentence("Promise 12, how many pairs");
        String[] texts = {
            "..................", "......(....)......", ".....((....)).....", "....(((....)))....",
            "...((((....))))...", "..(((((....)))))..", ".((((((....)))))).", "(((((((....)))))))"
        };
        for (int pairs = 0; pairs < texts.length; pairs++) {
            due("GGGGGGGAAAACCCCCCC", texts[pairs], pairs);
        }
    }

    private static void failureLeavesTheStructure() {
        CHECK.sentence("Promise 12, what is typed becomes THE STRUCTURE, if it is the text of one");
        String[] texts = {
            "", "x", "........)", ".((...)))", "(.)......", ".......", "..........", "(........", ".((...)).x",
            "((((((((("
        };
        for (String text : texts) {
            FoldedStrand strand = Check.strand(BASES);
            CHECK.due("list(12)", strand.list(12), 2);
            CHECK.due("read() of (((...)))", Check.read(strand, "(((...)))"), 3);
            String before = Check.state(strand);
            CHECK.due("read() of " + text + " is of none", Check.read(strand, text) <= -10, true);
            CHECK.due("all answers behind read() of " + text, Check.state(strand), before);
            CHECK.due("read() of .((...)).", Check.read(strand, ".((...))."), 2);
            CHECK.due("energy() of .((...)).", strand.energy(), -33 + 54);
            CHECK.due("partner(0) of .((...)).", strand.partner(0), FoldedStrand.BAD);
        }
    }
}
