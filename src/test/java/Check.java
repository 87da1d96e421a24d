import java.util.stream.IntStream;

/** Counts the answers that are not as due, and the short ways of calling that the tests share. */
final class Check {
    private int calls = 0;
    private int wrong = 0;

    void due(String call, long got, long want) {
        calls++;
        if (got != want) {
            wrong++;
            System.out.println(call + " answered " + got + ", due is " + want);
        }
    }

    void due(String call, boolean got, boolean want) {
        due(call, got ? 1 : 0, want ? 1 : 0);
    }

    void due(String call, String got, String want) {
        calls++;
        if (!got.equals(want)) {
            wrong++;
            System.out.println(call + " answered " + got + ", due is " + want);
        }
    }

    void finish() {
        System.out.println(calls + " answers, " + wrong + " not as due");
        if (wrong != 0) {
            System.exit(1);
        }
    }

    /** All characters that a text may have, and some far behind them whose low bytes are the same. */
    static int[] someCharacters() {
        return IntStream.range(0, 4 * 256).map(n -> n < 512 ? n : n + Character.MAX_VALUE + 1 - 4 * 256).toArray();
    }

    static FoldedStrand strand(String bases) {
        FoldedStrand strand = new FoldedStrand();
        append(strand, bases);
        return strand;
    }

    static void append(FoldedStrand strand, String bases) {
        for (char c : bases.toCharArray()) {
            if (!strand.base(c)) {
                throw new IllegalStateException("no base: " + c);
            }
        }
    }

    static int read(FoldedStrand strand, String text) {
        for (char c : text.toCharArray()) {
            if (!strand.type(c)) {
                throw new IllegalStateException("not typed: " + c);
            }
        }
        return strand.read();
    }

    /** The text of structure k of the list, as at tells it. */
    static String text(FoldedStrand strand, int k) {
        StringBuilder text = new StringBuilder();
        for (int i = 0; strand.at(k, i) != FoldedStrand.BAD; i++) {
            text.append((char) strand.at(k, i));
        }
        return text.toString();
    }
}
