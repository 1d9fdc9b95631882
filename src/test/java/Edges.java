/** What the tests of the document's sentences share. */
abstract class Edges {
    static final int BAD = -1, FULL = -2, NONE = -3;
    static final int CAST = -11, NOTHING = -12, PLACE = -13, SIZE = -14, THROWN = -15, NOUGHT = -16;
    static final int LOWEST = Integer.MIN_VALUE, GREATEST = Integer.MAX_VALUE;
    static final int TERMS = Sentences.TERMS;
    static final int[] WIDTHS = {8, 16, 32, 64};
    static final int[] NO_WIDTHS = {0, 1, 4, 7, 9, 12, 15, 17, 24, 31, 33, 63, 65, 128, 264, -8, -64, LOWEST, GREATEST};

    private final Sentences sentences;

    Edges(Sentences sentences) {
        this.sentences = sentences;
    }

    /** Runs every test of the class. */
    abstract void all();

    final void says(int promise, String words) {
        sentences.says(promise, words);
    }

    final void saysOnly(int promise, String words) {
        sentences.saysOnly(promise, words);
    }

    final void due(String call, long got, long want) {
        sentences.due(call, got, want);
    }

    /** rows: KIND, x, y of each step. */
    final void dueSteps(String call, DivideSmith s, int f, long... rows) {
        due(call + ", steps", s.steps(f), rows.length / 3);
        for (int i = 0; i < rows.length; i++) {
            due(call + ", step " + i / 3 + ", what " + i % 3, s.told(f, i / 3, i % 3), rows[i]);
        }
    }

    static long greatest(int width) {
        return -1L >>> (64 - width);
    }

    /** The number whose upper bit alone is set. */
    static long half(int width) {
        return 1L << (width - 1);
    }

    static DivideSmith withForms(int howMany, int width) {
        DivideSmith s = new DivideSmith();
        for (int i = 0; i < howMany; i++) s.form(width);
        return s;
    }

    /** One form of a width; rows: KIND, x, y of each step. */
    static DivideSmith withSteps(int width, long... rows) {
        DivideSmith s = withForms(1, width);
        for (int i = 0; i + 2 < rows.length; i += 3) s.step(0, (int) rows[i], (int) rows[i + 1], rows[i + 2]);
        return s;
    }

    /** One form of width 64 whose steps make just these of the number 0, which is its own number. */
    static DivideSmith withMade(long... values) {
        DivideSmith s = withForms(1, 64);
        for (long value : values) s.step(0, 7, 0, value);
        return s;
    }

    /** A form of width 8 with so many steps. */
    static DivideSmith withLength(int howMany) {
        DivideSmith s = withForms(1, 8);
        for (int i = 0; i < howMany; i++) s.step(0, 7, i, i);
        return s;
    }
}
