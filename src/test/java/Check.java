import java.util.stream.IntStream;

/** Counts the answers that are not as due, and the short ways of calling that the tests share. */
final class Check {
    private int calls = 0;
    private int wrong = 0;
    private String sentence = "";
    private int callsBefore = 0;

    /** The answers that follow belong to this sentence of the document. */
    void sentence(String words) {
        endSentence();
        sentence = words + ": ";
        callsBefore = calls;
    }

    private void endSentence() {
        if (!sentence.isEmpty() && calls == callsBefore) {
            wrong++;
            System.out.println(sentence + "no answer was looked at");
        }
    }

    void due(String call, long got, long want) {
        due(call, Long.toString(got), Long.toString(want));
    }

    void due(String call, boolean got, boolean want) {
        due(call, got ? 1 : 0, want ? 1 : 0);
    }

    void due(String call, String got, String want) {
        calls++;
        if (!got.equals(want)) {
            wrong++;
            System.out.println(sentence + call + " answered " + got + ", due is " + want);
        }
    }

    void finish() {
        endSentence();
        System.out.println(calls + " answers, " + wrong + " not as due");
        if (wrong != 0) {
            System.exit(1);
        }
    }

    /** All characters that a text may have, and some far behind them whose low bytes are the same. */
    static int[] someCharacters() {
        return IntStream.range(0, 4 * 256).map(n -> n < 512 ? n : n + Character.MAX_VALUE + 1 - 4 * 256).toArray();
    }

    static FoldedStrand strand(String bases) {
        FoldedStrand strand = new FoldedStrand();
        append(strand, bases);
        return strand;
    }

    static void append(FoldedStrand strand, String bases) {
        for (char c : bases.toCharArray()) {
            if (!strand.base(c)) {
                throw new IllegalStateException("no base: " + c);
            }
        }
    }

    static int read(FoldedStrand strand, String text) {
        for (char c : text.toCharArray()) {
            if (!strand.type(c)) {
                throw new IllegalStateException("not typed: " + c);
            }
        }
        return strand.read();
    }

    /** The text of structure k of the list, as at tells it. */
    static String text(FoldedStrand strand, int k) {
        StringBuilder text = new StringBuilder();
        for (int c = strand.at(k, 0); c != FoldedStrand.BAD; c = strand.at(k, text.length())) {
            text.append((char) c);
        }
        return text.toString();
    }

    /** All answers that change nothing, of the list its first three structures: some 130 calls. */
    static String state(FoldedStrand strand) {
        StringBuilder state = new StringBuilder();
        state.append(strand.most()).append(' ').append(strand.least()).append(' ').append(strand.ways());
        for (int k = 0; k < 3; k++) {
            state.append(" / ").append(text(strand, k)).append(' ').append(strand.energyOf(k));
        }
        state.append(" / ").append(strand.energy());
        for (int i = -1; i <= 18; i++) {
            state.append(' ').append(strand.partner(i)).append(' ').append(strand.loop(i));
        }
        return state.toString();
    }

    /** Every character there is, for an answer that hangs on the character alone. */
    static char[] everyCharacter() {
        char[] all = new char[Character.MAX_VALUE + 1];
        for (int c = 0; c < all.length; c++) {
            all[c] = (char) c;
        }
        return all;
    }
}
