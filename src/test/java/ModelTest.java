/** Long runs of calls, the same on the program and on the model; numbers of a fixed row choose them. */
public final class ModelTest {
    private static final int RUNS = 200;
    private static final String[] ALPHABETS = {"ACGU", "GC", "GU", "GGCCAU", "AU", "GGUC"};
    private static final String[] MOTIFS = {
        "CUUCGG", "GCUUCGGC", "GGCCAAAGGUACCAAGCC", "GAGCAAAGCAGCAAAGCC", "GUGUGUGUGUGUGUGUGU", "GGGGGGAAAACCCCCC",
        "GGGAAAAAAAAAAAAACC", "AGAAAGAAAAUAAAAAAU"
    };

    private static final Check CHECK = new Check();
    private static long seed = 20261115;

    private static int pick(int bound) {
        seed = seed * 6364136223846793005L + 1442695040888963407L;
        return (int) ((seed >>> 33) % bound);
    }

    private FoldedStrand strand = new FoldedStrand();
    private Model model = new Model();
    private int calls = 0;
    private final int run;

    private ModelTest(int run) {
        this.run = run;
    }

    public static void main(String[] args) {
        for (int run = 0; run < RUNS; run++) {
            new ModelTest(run).go();
        }
        CHECK.finish();
    }

    private void go() {
        while (calls < 300) {
            makeStrand();
            askAboutStrand();
            for (int part = pick(3); part >= 0; part--) {
                askAboutList();
                typeAndRead();
                askAboutStructure();
            }
        }
    }

    private void due(String call, int got, int want) {
        calls++;
        CHECK.due("run " + run + ", call " + calls + ": " + call, got, want);
    }

    private void due(String call, boolean got, boolean want) {
        due(call, got ? 1 : 0, want ? 1 : 0);
    }

    private void addBase(char c) {
        due("base(" + c + ")", strand.base(c), model.base(c));
    }

    private void makeStrand() {
        if (pick(4) > 0) {
            due("clear()", strand.clear(), model.clear());
        }
        if (pick(3) == 0) {
            for (char c : MOTIFS[pick(MOTIFS.length)].toCharArray()) {
                addBase(c);
            }
        }
        String alphabet = ALPHABETS[pick(ALPHABETS.length)];
        for (int count = pick(20); count > 0; count--) {
            addBase(alphabet.charAt(pick(alphabet.length())));
        }
        if (pick(4) == 0) {
            addBase((char) pick(300));
        }
    }

    private void askAboutStrand() {
        due("most()", strand.most(), model.most());
        due("least()", strand.least(), model.least());
        due("ways()", strand.ways(), model.ways());
    }

    private void askAboutList() {
        int delta = pick(6) == 0 ? pick(400) - 50 : pick(130);
        int size = model.list(delta);
        due("list(" + delta + ")", strand.list(delta), size);
        for (int count = 0; count < 8; count++) {
            int k = pick(Math.max(size, 0) + 2) - pick(2);
            int i = pick(21) - 1;
            due("energyOf(" + k + ")", strand.energyOf(k), model.energyOf(k));
            due("at(" + k + ", " + i + ")", strand.at(k, i), model.at(k, i));
        }
        if (pick(2) == 0) {
            int k = pick(Math.max(size, 0) + 1);
            due("take(" + k + ")", strand.take(k), model.take(k));
        }
    }

    private void typeAndRead() {
        for (char c : textToType().toCharArray()) {
            due("type(" + (int) c + ")", strand.type(c), model.type(c));
        }
        if (pick(5) > 0) {
            due("read()", strand.read(), model.read());
        }
    }

    private String textToType() {
        StringBuilder text = new StringBuilder();
        int k = pick(20);
        for (int i = 0; model.at(k, i) >= 0; i++) {
            text.append((char) model.at(k, i));
        }
        if (text.length() > 0 && pick(3) == 0) {
            text.setCharAt(pick(text.length()), "().x".charAt(pick(4)));
        }
        if (pick(5) == 0) {
            text.append("().x".charAt(pick(4)));
        }
        if (pick(12) == 0) {
            text.append((char) pick(300));
        }
        return text.toString();
    }

    private void askAboutStructure() {
        due("energy()", strand.energy(), model.energy());
        for (int count = 0; count < 6; count++) {
            int i = pick(21) - 1;
            due("partner(" + i + ")", strand.partner(i), model.partner(i));
            due("loop(" + i + ")", strand.loop(i), model.loop(i));
        }
    }
}
