/** For each promise of the document: ordinary calls, the edges that it names, and wrong inputs. */
public final class PromiseTest {
    private static final int BAD = -1, FULL = -2, NONE = -3;
    private static final int CAST = -11, NOTHING = -12, PLACE = -13, SIZE = -14, THROWN = -15, NOUGHT = -16;
    private static final int LOWEST = Integer.MIN_VALUE, GREATEST = Integer.MAX_VALUE;
    private static int wrong = 0;
    private static int promise = 0;

    private static void due(String call, long got, long want) {
        if (got != want) {
            wrong++;
            System.out.println("promise " + promise + ": " + call + " answered " + got + ", due is " + want);
        }
    }

    /** rows: KIND, x, y of each step. */
    private static void dueSteps(String call, DivideSmith s, int f, long... rows) {
        due(call + ", steps", s.steps(f), rows.length / 3);
        for (int i = 0; i < rows.length; i++) {
            due(call + ", step " + i / 3 + ", what " + i % 3, s.told(f, i / 3, i % 3), rows[i]);
        }
    }

    private static void dueMade(int w, int signed, int wish, long d, long... rows) {
        DivideSmith s = new DivideSmith();
        String call = "make(" + w + ", " + signed + ", " + wish + ", " + d + ")";
        due(call, s.make(w, signed, wish, d), 0);
        dueSteps(call, s, 0, rows);
    }

    private static DivideSmith withForms(int howMany) {
        DivideSmith s = new DivideSmith();
        for (int i = 0; i < howMany; i++) s.form(8);
        return s;
    }

    private static DivideSmith withSteps(int howMany) {
        DivideSmith s = withForms(1);
        for (int i = 0; i < howMany; i++) s.step(0, 7, i, i);
        return s;
    }

    private static void newObject() {
        DivideSmith s = new DivideSmith();
        for (int what = 0; what < 3; what++) due("count(" + what + ")", s.count(what), 0);
        for (int h = 0; h < 8; h++) due("held(" + h + ")", s.held(h), 0);
        for (int p = 0; p < 4; p++) due("tell(" + p + ", 1)", s.tell(p, 1), 0);
        int[] first = {1, 1, 4, 4, 3, 1, 1, 1, 1, 1, 1, 1, 1};
        for (int k = 0; k < 13; k++) due("price(" + k + ", 1)", s.price(k, 1), first[k]);
        due("steps(0)", s.steps(0), BAD);
    }

    private static void form() {
        DivideSmith s = new DivideSmith();
        int[] widths = {8, 16, 32, 64};
        for (int i = 0; i < 4; i++) {
            due("form", s.form(widths[i]), i);
            due("width", s.width(i), widths[i]);
            due("steps", s.steps(i), 0);
        }
        for (int w : new int[] {0, 7, 9, 24, 63, 65, 128, -8, LOWEST, GREATEST}) due("form(" + w + ")", s.form(w), BAD);
        for (int i = 4; i < 60; i++) due("form", s.form(8), i);
        due("form of the 61st", s.form(8), FULL);
        due("BAD is named first", s.form(9), BAD);
        due("count", s.count(0), 60);
    }

    private static void step() {
        DivideSmith s = new DivideSmith();
        s.form(16);
        due("no such form", s.step(1, 0, 0, 0), BAD);
        due("no such form", s.step(-1, 0, 0, 0), BAD);
        due("no such KIND", s.step(0, -1, 0, 0), BAD);
        due("no such KIND", s.step(0, 13, 0, 0), BAD);
        due("operand x not ahead", s.step(0, 9, 1, 0), BAD);
        due("operand x below 0", s.step(0, 9, -1, 0), BAD);
        for (int kind : new int[] {5, 6, 8, 12}) {
            due("operand y not ahead", s.step(0, kind, 0, 1), BAD);
            due("operand y below 0", s.step(0, kind, 0, -1), BAD);
            due("operand y keeps its upper bits", s.step(0, kind, 0, 1L << 32), BAD);
        }
        for (int kind : new int[] {0, 1, 10}) {
            due("count N", s.step(0, kind, 0, 16), BAD);
            due("count below 0", s.step(0, kind, 0, -1), BAD);
            due("count keeps its upper bits", s.step(0, kind, 0, 1L << 32), BAD);
        }
        due("nothing changed", s.steps(0), 0);
        due("count N - 1", s.step(0, 0, 0, 15), 0);
        due("operand that was made", s.step(0, 5, 1, 0), 1);
        due("a number's upper bits go", s.step(0, 4, 2, -2), 2);
        dueSteps("step", s, 0, 0, 0, 15, 5, 1, 0, 4, 2, 65534);
        for (int i = 3; i < 12; i++) due("step", s.step(0, 7, i, i), i);
        due("the 13th", s.step(0, 7, 12, 0), FULL);
        due("BAD is named first", s.step(0, 7, 13, 0), BAD);
        due("steps", s.steps(0), 12);
    }

    private static void makePlain() {
        dueMade(8, 0, 0, 1, 0, 0, 0);
        dueMade(8, 0, 1, 128, 0, 0, 7);
        dueMade(8, 0, 0, 3, 2, 0, 171, 0, 1, 1);
        dueMade(8, 0, 0, 10, 2, 0, 205, 0, 1, 3);
        dueMade(8, 0, 0, 7, 2, 0, 37, 6, 0, 1, 0, 2, 1, 5, 3, 1, 0, 4, 2);
        dueMade(8, 0, 0, 255, 2, 0, 129, 0, 1, 7);
        dueMade(32, 0, 0, 641, 2, 0, 6700417);
        dueMade(32, 0, 0, (1L << 40) + 641, 2, 0, 6700417);
        dueMade(8, 0, 2, 8, 9, 0, 7);
        dueMade(8, 0, 3, 1, 9, 0, 0);
        dueMade(8, 0, 2, 10, 2, 0, 205, 0, 1, 3, 4, 2, 10, 6, 0, 3);
        dueMade(8, 0, 4, 1, 4, 0, 1, 11, 1, 255);
        dueMade(8, 0, 4, 3, 4, 0, 171, 11, 1, 85);
        dueMade(8, 0, 4, 12, 4, 0, 171, 10, 1, 2, 11, 2, 21);
        dueMade(8, 0, 5, 1, 0, 0, 0);
        dueMade(8, 0, 5, 16, 0, 0, 4);
        dueMade(8, 0, 5, 3, 4, 0, 171);
        dueMade(8, 0, 5, 12, 0, 0, 2, 4, 1, 171);
        dueMade(64, 0, 0, -1, 2, 0, Long.MIN_VALUE + 1, 0, 1, 63);
    }

    private static void makeSigned() {
        dueMade(8, 1, 0, 1, 0, 0, 0);
        dueMade(8, 1, 0, -1, 7, 0, 0);
        dueMade(8, 1, 0, 4, 1, 0, 7, 0, 1, 6, 5, 0, 2, 1, 3, 2);
        dueMade(8, 1, 0, -4, 1, 0, 7, 0, 1, 6, 5, 0, 2, 1, 3, 2, 7, 4, 0);
        dueMade(8, 1, 0, -128, 1, 0, 7, 0, 1, 1, 5, 0, 2, 1, 3, 7, 7, 4, 0);
        dueMade(8, 1, 0, 3, 3, 0, 86, 1, 0, 7, 6, 1, 2);
        dueMade(8, 1, 0, 7, 3, 0, 147, 5, 1, 0, 1, 2, 2, 1, 0, 7, 6, 3, 4);
        dueMade(8, 1, 0, -7, 3, 0, 147, 5, 1, 0, 1, 2, 2, 1, 0, 7, 6, 3, 4, 7, 5, 0);
        dueMade(8, 1, 1, 3, 1, 0, 7, 8, 0, 1, 2, 2, 171, 0, 3, 1, 8, 4, 1);
        dueMade(8, 1, 1, 1, 1, 0, 7, 8, 0, 1, 0, 2, 0, 8, 3, 1);
        dueMade(8, 1, 2, -3, 3, 0, 86, 1, 0, 7, 6, 1, 2, 7, 3, 0, 4, 4, 253, 6, 0, 5);
        dueMade(8, 1, 2, -1, 7, 0, 0, 4, 1, 255, 6, 0, 2);
        dueMade(8, 1, 3, 7, 1, 0, 7, 8, 0, 1, 2, 2, 37, 6, 2, 3, 0, 4, 1, 5, 5, 3, 0, 6, 2, 8, 7, 1, 4, 8, 7, 6, 0, 9);
        dueMade(8, 1, 4, -6, 1, 0, 7, 8, 0, 1, 6, 2, 1, 4, 3, 171, 10, 4, 1, 11, 5, 42);
        dueMade(8, 1, 4, -128, 1, 0, 7, 8, 0, 1, 6, 2, 1, 4, 3, 1, 10, 4, 7, 11, 5, 1);
        dueMade(8, 1, 5, 1, 1, 0, 0);
        dueMade(8, 1, 5, -1, 4, 0, 255);
        dueMade(8, 1, 5, 4, 1, 0, 2);
        dueMade(8, 1, 5, -4, 1, 0, 2, 4, 1, 255);
        dueMade(8, 1, 5, -3, 4, 0, 85);
        dueMade(8, 1, 5, 12, 1, 0, 2, 4, 1, 171);
    }

    private static void makeWrong() {
        DivideSmith s = new DivideSmith();
        due("no such width", s.make(9, 0, 0, 3), BAD);
        due("signed 2", s.make(8, 2, 0, 3), BAD);
        due("signed -1", s.make(8, -1, 0, 3), BAD);
        due("wish 6", s.make(8, 0, 6, 3), BAD);
        due("wish -1", s.make(8, 0, -1, 3), BAD);
        due("d 0", s.make(8, 0, 0, 0), BAD);
        due("d's lowest bits 0", s.make(8, 0, 0, 256), BAD);
        due("SIGNED 1, d below 0", s.make(8, 1, 1, -3), BAD);
        due("SIGNED 3, d below 0", s.make(8, 1, 3, 200), BAD);
        due("nothing was made", s.count(0), 0);
        due("PLAIN 1 takes it", s.make(8, 0, 1, -3), 0);
        DivideSmith full = withForms(60);
        due("make of the 61st", full.make(8, 0, 0, 3), FULL);
        due("BAD is named first", full.make(8, 0, 0, 0), BAD);
    }

    private static void drop() {
        DivideSmith s = new DivideSmith();
        due("drop of none", s.drop(), BAD);
        s.form(8);
        s.form(16);
        s.step(0, 7, 0, 1);
        s.step(1, 7, 0, 1);
        s.price(0, 5);
        s.hook(0, 1, 1, 0);
        due("acts", s.count(1), 6);
        due("drop", s.drop(), 1);
        due("the form's acts are no more, the others stay", s.count(1), 4);
        due("steps(1)", s.steps(1), BAD);
        due("the hook still holds the step", s.use(0, 0, 0, 0), 7);
        due("undo hook", s.undo(), 3);
        due("undo price", s.undo(), 2);
        due("undo step of 0", s.undo(), 1);
        due("steps(0)", s.steps(0), 0);
        due("the number is given again", s.form(64), 1);
        due("without steps", s.steps(1), 0);
        due("width", s.width(1), 64);
        due("drop", s.drop(), 1);
        due("drop", s.drop(), 0);
        due("drop", s.drop(), BAD);
        due("acts", s.count(1), 0);
    }

    private static void whatFormsAre() {
        promise = 6;
        DivideSmith s = withSteps(2);
        due("steps(0)", s.steps(0), 2);
        due("steps(1)", s.steps(1), BAD);
        due("steps(-1)", s.steps(-1), BAD);
        due("steps(greatest)", s.steps(GREATEST), BAD);
        promise = 7;
        due("KIND", s.told(0, 1, 0), 7);
        due("x", s.told(0, 1, 1), 1);
        due("y", s.told(0, 1, 2), 1);
        due("no such form", s.told(1, 0, 0), BAD);
        due("no such step", s.told(0, 2, 0), BAD);
        due("no such step", s.told(0, -1, 0), BAD);
        due("no such what", s.told(0, 0, 3), BAD);
        due("no such what", s.told(0, 0, -1), BAD);
        s.form(64);
        s.step(1, 4, 0, -1);
        due("64 bits", s.told(1, 0, 2), -1);
        promise = 8;
        due("width(1)", s.width(1), 64);
        due("width(2)", s.width(2), BAD);
        due("width(-1)", s.width(-1), BAD);
        promise = 9;
        due("cost of none", withForms(1).cost(0), 0);
        due("cost(0)", s.cost(0), 2);
        due("cost(1)", s.cost(1), 3);
        due("cost(2)", s.cost(2), BAD);
        promise = 10;
        due("price(4, 50)", s.price(4, 50), 3);
        due("cost(1)", s.cost(1), 50);
        due("price(4, 1)", s.price(4, 1), 50);
        due("price 51", s.price(4, 51), BAD);
        due("price 0", s.price(4, 0), BAD);
        due("KIND 13", s.price(13, 1), BAD);
        due("KIND -1", s.price(-1, 1), BAD);
        due("cost(1)", s.cost(1), 1);
    }

    /** The KINDS, one at a time, at their edges. */
    private static void run() {
        long[][] rows = { // width, KIND, y, number, made
            {8, 0, 3, 0x90, 0x12}, {8, 0, 0, 0x190, 0x90}, {64, 0, 63, -1, 1},
            {8, 1, 3, 0x90, 0xF2}, {8, 1, 7, 0x7F, 0}, {64, 1, 63, Long.MIN_VALUE, -1}, {32, 1, 31, 1L << 31, 0xFFFFFFFFL},
            {8, 2, 255, 255, 254}, {32, 2, -1, -1, 0xFFFFFFFEL}, {64, 2, -1, -1, -2}, {64, 2, 1L << 63, 6, 3},
            {8, 3, 128, 128, 64}, {8, 3, 255, 1, 255}, {8, 3, 255, 255, 0}, {64, 3, Long.MIN_VALUE, Long.MIN_VALUE, 1L << 62},
            {64, 3, -1, 5, -1}, {64, 3, -1, -1, 0}, {64, 3, 0, 5, 0}, {64, 3, 5, 0, 0}, {32, 3, 1L << 31, 1L << 31, 1L << 30},
            {8, 4, 255, 255, 1}, {16, 4, 257, 257, 513}, {64, 4, 3, -1, -3},
            {8, 7, 3, 5, 254}, {16, 7, 0, 1, 65535}, {64, 7, 0, Long.MIN_VALUE, Long.MIN_VALUE},
            {8, 9, 0x0F, 0x3C, 0x0C},
            {8, 10, 1, 0x81, 0xC0}, {8, 10, 0, 0x81, 0x81}, {64, 10, 0, 5, 5}, {64, 10, 1, 1, Long.MIN_VALUE},
            {32, 10, 31, 1L << 31, 1},
            {8, 11, 200, 200, 1}, {8, 11, 200, 201, 0}, {64, 11, 1, -1, 0}, {64, 11, -1, 1, 1},
        };
        for (long[] r : rows) {
            DivideSmith s = new DivideSmith();
            s.form((int) r[0]);
            s.step(0, (int) r[1], 0, r[2]);
            due("KIND " + r[1] + " of " + r[3] + " with " + r[2], s.run(0, r[3]), r[4]);
        }
        long[][] pairs = { // KIND, number, made of the number and 3 less the number, at width 8
            {5, 200, 3}, {6, 2, 1}, {6, 1, 255}, {8, 5, 0xFB}, {12, 0x80, 0x83}, {12, 0x7F, 0},
        };
        for (long[] r : pairs) {
            DivideSmith s = withForms(1);
            s.step(0, 7, 0, 3);
            s.step(0, (int) r[0], 0, 1);
            due("KIND " + r[0] + " of " + r[1], s.run(0, r[1]), r[2]);
        }
        DivideSmith s = withForms(1);
        due("no steps", s.run(0, -1), 255);
        due("no such form", s.run(1, 5), 0);
        due("no such form", s.run(-1, 5), 0);
    }

    private static void end() {
        DivideSmith s = withForms(1);
        s.step(0, 4, 0, 3);
        s.step(0, 7, 1, 1);
        due("end(0, 100, 0)", s.end(0, 100, 0), 44);
        due("end(0, 100, 1)", s.end(0, 100, 1), 213);
        due("end(0, 356, 1)", s.end(0, 356, 1), 213);
        due("the last of 12", withSteps(12).end(0, 5, 11), withSteps(12).run(0, 5));
        due("no such step", s.end(0, 100, 2), 0);
        due("no such step", s.end(0, 100, -1), 0);
        due("no such form", s.end(1, 100, 0), 0);
        due("run", s.run(0, 100), 213);
    }

    private static void fails() {
        DivideSmith s = withForms(1);
        due("the number itself is its quotient by 1", s.fails(0, 0, 0, 1), NONE);
        due("0 has no rest", s.fails(0, 0, 4, 200), 0);
        due("by 2 it fails at 1", s.fails(0, 0, 0, 2), 1);
        due("wish 5 asks of even numbers alone", s.fails(0, 0, 5, 2), 2);
        due("the rest by 255 fails at 255 alone", s.fails(0, 0, 2, 255), 255);
        due("SIGNED by -1", s.fails(0, 1, 0, -1), 1);
        s.form(16);
        s.step(1, 2, 0, 52429);
        s.step(1, 0, 1, 3);
        due("width 16", s.fails(1, 0, 0, 10), NONE);
        due("SIGNED: -32768 by 10", s.fails(1, 1, 0, 10), 32768);
        s.form(16);
        s.step(2, 2, 0, 6553);
        due("a little too small", s.fails(2, 0, 0, 10), 10);
        s.form(32);
        s.form(64);
        due("width 32", s.fails(3, 0, 0, 1), BAD);
        due("width 64", s.fails(4, 0, 0, 1), BAD);
        due("no such form", s.fails(5, 0, 0, 1), BAD);
        due("no such form", s.fails(-1, 0, 0, 1), BAD);
        due("d 0", s.fails(0, 0, 0, 512), BAD);
        due("signed 2", s.fails(0, 2, 0, 1), BAD);
        due("wish 6", s.fails(0, 0, 6, 1), BAD);
        due("SIGNED 1, d below 0", s.fails(0, 1, 1, -1), BAD);
        due("no act", s.count(1), 8);
    }

    private static void plain() {
        DivideSmith s = withForms(60);
        long[][] rows = { // width, signed, wish, d, n, answer
            {8, 0, 0, 7, 255, 36}, {8, 0, 1, 7, 255, 36}, {8, 0, 2, 7, 255, 3}, {8, 0, 3, 7, 255, 3},
            {8, 0, 4, 7, 255, 0}, {8, 0, 4, 7, 252, 1}, {8, 0, 5, 7, 255, 36},
            {8, 1, 0, 7, -8, 255}, {8, 1, 1, 7, -8, 254}, {8, 1, 2, 7, -8, 255}, {8, 1, 3, 7, -8, 6},
            {8, 1, 1, 7, -7, 255}, {8, 1, 3, 7, -7, 0}, {8, 1, 4, -7, -14, 1}, {8, 1, 5, 7, -8, 255},
            {8, 1, 0, -7, 100, 242}, {8, 1, 2, -7, 100, 2},
            {8, 1, 0, -1, 128, 128}, {8, 1, 2, -1, 128, 0}, {64, 1, 0, -1, Long.MIN_VALUE, Long.MIN_VALUE},
            {64, 1, 2, -1, Long.MIN_VALUE, 0}, {64, 1, 4, -1, Long.MIN_VALUE, 1},
            {64, 0, 0, 3, -1, 6148914691236517205L}, {64, 0, 2, 10, -1, 5}, {64, 0, 0, -2, -1, 1}, {64, 0, 2, -2, -1, 1},
            {64, 0, 0, 1, -1, -1}, {64, 0, 0, Long.MAX_VALUE, -1, 2}, {64, 0, 2, Long.MAX_VALUE, -1, 1},
            {64, 0, 2, -1, -2, -2}, {32, 0, 0, 1, -1, 0xFFFFFFFFL}, {32, 0, 0, (1L << 32) + 10, 105, 10},
            {9, 0, 0, 1, 5, 0}, {8, 2, 0, 1, 5, 0}, {8, 0, 6, 1, 5, 0}, {8, 0, 0, 0, 5, 0}, {8, 0, 0, 256, 5, 0},
            {8, 1, 1, -1, 5, 0}, {8, 1, 3, -2, 5, 0},
        };
        for (long[] r : rows) {
            due("plain(" + r[0] + ", " + r[1] + ", " + r[2] + ", " + r[3] + ", " + r[4] + ")",
                s.plain((int) r[0], (int) r[1], (int) r[2], r[3], r[4]), r[5]);
        }
    }

    private static void proof() {
        DivideSmith s = new DivideSmith();
        long[][] rows = { // width, d, S, M's lowest bits, over, MISS
            {8, 7, 3, 37, 1, 3}, {8, 3, 1, 171, 0, 1}, {8, 10, 3, 205, 0, 2}, {8, 263, 3, 37, 1, 3},
            {8, 255, 7, 129, 0, 127}, {8, 129, 7, 255, 0, 127}, {8, 253, 6, 65, 0, 61}, {8, 140, 8, 213, 1, 124},
            {16, 33233, 16, 63703, 1, 32391}, {32, 641, 0, 6700417, 0, 1},
            {64, 7, 3, 2635249153387078803L, 1, 5}, {64, -1, 63, Long.MIN_VALUE + 1, 0, Long.MAX_VALUE},
            {8, 1, 0, 0, 0, 0}, {8, 128, 0, 0, 0, 0}, {64, Long.MIN_VALUE, 0, 0, 0, 0},
            {8, 0, BAD, BAD, BAD, BAD}, {16, 65536, BAD, BAD, BAD, BAD}, {12, 7, BAD, BAD, BAD, BAD},
        };
        for (long[] r : rows) {
            for (int what = 0; what < 4; what++) {
                due("proof(" + r[0] + ", " + r[1] + ", " + what + ")", s.proof((int) r[0], r[1], what), r[2 + what]);
            }
        }
        due("no such what", s.proof(8, 7, 4), BAD);
        due("no such what", s.proof(8, 7, -1), BAD);
        due("no such what, O 1", s.proof(8, 8, 4), BAD);
    }

    private static void check() {
        DivideSmith s = new DivideSmith();
        long[][] rows = { // width, d, s, m, over, answer
            {8, 7, 3, 37, 1, 1}, {8, 7, 3, 37, 0, 0}, {8, 7, 3, 36, 1, 0}, {8, 7, 3, 38, 1, 0}, {8, 7, 2, 147, 0, 0},
            {8, 7, 4, 74, 1, 0}, {8, 3, 1, 171, 0, 1}, {8, 3, 1, 171 + 256, 0, 1}, {8, 259, 1, 171, 0, 1},
            {8, 1, 0, 0, 1, 1}, {8, 1, 0, 1, 1, 1}, {8, 1, 0, 2, 1, 0}, {8, 1, 0, 255, 0, 0},
            {8, 128, 7, 0, 1, 1}, {8, 128, 7, 1, 1, 1}, {8, 128, 7, 2, 1, 0}, {8, 128, 8, 255, 1, 0},
            {8, 253, 8, 4, 1, 1}, {8, 253, 8, 3, 1, 0}, {8, 253, 8, 5, 1, 0}, {8, 255, 8, 2, 1, 1}, {8, 255, 8, 1, 1, 0},
            {8, 241, 8, 16, 1, 1}, {8, 241, 8, 17, 1, 0}, {8, 255, 8, 3, 1, 0},
            // M d - 2^(N + s) is just 2^s, at s = N
            {32, 3430613504L, 32, 1082130432, 1, 1}, {64, -8799998487509860352L, 64, -1619170619263811584L, 1, 1},
            {64, -8799998487509860352L, 64, -1619170619263811583L, 1, 0},
            {64, 7, 3, 2635249153387078803L, 1, 1}, {64, 7, 3, 2635249153387078802L, 1, 0},
            {64, -1, 63, Long.MIN_VALUE + 1, 0, 1}, {64, -1, 64, 2, 1, 1}, {64, -1, 64, 3, 1, 0}, {64, 1, 0, 1, 1, 1},
            {8, 7, 9, 37, 1, BAD}, {8, 7, -1, 37, 1, BAD}, {8, 7, 3, 37, 2, BAD}, {8, 7, 3, 37, -1, BAD},
            {8, 256, 3, 37, 1, BAD}, {24, 7, 3, 37, 1, BAD}, {64, 7, 65, 0, 1, BAD},
        };
        for (long[] r : rows) {
            due("check(" + r[0] + ", " + r[1] + ", " + r[2] + ", " + r[3] + ", " + r[4] + ")",
                s.check((int) r[0], r[1], (int) r[2], r[3], (int) r[4]), r[5]);
        }
    }

    private static void inverse() {
        DivideSmith s = new DivideSmith();
        due("inverse(8, 3)", s.inverse(8, 3), 171);
        due("inverse(8, -1)", s.inverse(8, -1), 255);
        due("inverse(8, 259)", s.inverse(8, 259), 171);
        due("inverse(16, 3)", s.inverse(16, 3), 43691);
        due("inverse(32, 3)", s.inverse(32, 3), 2863311531L);
        due("inverse(64, 3)", s.inverse(64, 3), -6148914691236517205L);
        due("inverse(64, -1)", s.inverse(64, -1), -1);
        due("inverse(64, 1)", s.inverse(64, 1), 1);
        due("even", s.inverse(8, 6), 0);
        due("0", s.inverse(8, 0), 0);
        due("no such width", s.inverse(9, 3), 0);
        for (long d = -99; d < 1000; d += 2) due("inverse(64, " + d + ") d", s.inverse(64, d) * d, 1);
    }

    private static void tell() {
        DivideSmith s = new DivideSmith();
        due("tell(0, 300)", s.tell(0, 300), 0);
        due("it keeps all its bits", s.tell(0, -1), 300);
        due("tell(3, least)", s.tell(3, Long.MIN_VALUE), 0);
        due("tell(3, 0)", s.tell(3, 0), Long.MIN_VALUE);
        due("tell(4, 1)", s.tell(4, 1), 0);
        due("tell(-1, 1)", s.tell(-1, 1), 0);
        due("acts", s.count(1), 4);
        s.undo();
        due("undone", s.tell(3, 1), Long.MIN_VALUE);
    }

    private static DivideSmith telling(long a, long b, long c, long d) {
        DivideSmith s = new DivideSmith();
        s.tell(0, a);
        s.tell(1, b);
        s.tell(2, c);
        s.tell(3, d);
        return s;
    }

    private static void least() {
        DivideSmith s = telling(3, 171, 1, 7);
        due("least(0, 0, 3, 1)", s.least(0, 0, 3, 1), NONE);
        due("it was looked", s.count(2), 1);
        due("no act", s.count(1), 4);
        due("least(0, 0, 3, 3)", s.least(0, 0, 3, 3), 0);
        dueSteps("least(0, 0, 3, 3)", s, 0, 2, 0, 171, 0, 1, 1);
        due("width", s.width(0), 8);
        due("by 1, at least one step", s.least(0, 0, 1, 1), 1);
        dueSteps("by 1, of one step", s, 1, 4, 0, 1);
        due("by 1, of two", s.least(0, 0, 1, 2), 2);
        dueSteps("two steps may be cheaper than one", s, 2, 5, 0, 0, 6, 1, 0);
    }

    private static void leastOrder() {
        DivideSmith s = telling(0, 256, 0, 0);
        due("by 1 with a told 0", s.least(0, 0, 1, 3), 0);
        dueSteps("KIND 0 by 0 comes first", s, 0, 0, 0, 0);
        s.price(0, 2);
        due("by 1, KIND 0 dearer", s.least(0, 0, 1, 3), 1);
        dueSteps("KIND 1 by 0 is cheaper", s, 1, 1, 0, 0);
        DivideSmith t = telling(2, 320, 64, 8);
        due("by 4", t.least(0, 0, 4, 3), 0);
        dueSteps("one step is cheaper than two", t, 0, 0, 0, 2);
        t.price(0, 50);
        due("by 4, KIND 0 dear", t.least(0, 0, 4, 1), 1);
        dueSteps("four is less than 50", t, 1, 2, 0, 64);
        due("by 4, KIND 0 dear", t.least(0, 0, 4, 3), 2);
        dueSteps("three steps of 1 are less than one of 4", t, 2, 1, 0, 2, 9, 1, 64, 5, 1, 2);
        DivideSmith u = telling(64, 2, 0, 0);
        u.price(0, 4);
        due("of one cost: by KIND", u.least(0, 0, 4, 1), 0);
        dueSteps("of one cost: by KIND", u, 0, 0, 0, 2);
        DivideSmith v = telling(9, 8, 255, 264);
        v.price(6, 50);
        v.price(8, 50);
        due("the rest by 1 is 0", v.least(0, 2, 1, 1), 0);
        dueSteps("8 is no count, else KIND 0 by 8 would be cheaper", v, 0, 6, 0, 0);
        due("only multiples are asked of", v.least(0, 5, 255, 3), 1);
        due("RIGHT", v.fails(1, 0, 5, 255), NONE);
    }

    private static void leastWrong() {
        DivideSmith s = telling(0, 1, 2, 3);
        due("most 0", s.least(0, 0, 1, 0), BAD);
        due("most 4", s.least(0, 0, 1, 4), BAD);
        due("signed 2", s.least(2, 0, 1, 1), BAD);
        due("wish 6", s.least(0, 6, 1, 1), BAD);
        due("d 0", s.least(0, 0, 256, 1), BAD);
        due("SIGNED 1, d below 0", s.least(1, 1, -1, 1), BAD);
        due("not looked", s.count(2), 0);
        for (int i = 0; i < 12; i++) due("least", s.least(0, 0, 1, 1), i);
        due("the 13th", s.least(0, 0, 1, 1), FULL);
        due("BAD is named first", s.least(0, 0, 0, 1), BAD);
        due("looked", s.count(2), 12);
        for (int i = 0; i < 12; i++) s.undo();
        due("undo gives no look back", s.least(0, 0, 1, 1), FULL);
        due("forms", s.count(0), 0);
        DivideSmith full = withForms(60);
        due("61st form", full.least(0, 0, 1, 1), FULL);
        due("61st form: not looked", full.count(2), 0);
    }

    private static void count() {
        DivideSmith s = withForms(2);
        s.least(0, 0, 1, 1);
        due("count(0)", s.count(0), 3);
        due("count(1)", s.count(1), 3);
        due("count(2)", s.count(2), 1);
        due("count(3)", s.count(3), BAD);
        due("count(-1)", s.count(-1), BAD);
    }

    private static void undo() {
        DivideSmith s = new DivideSmith();
        due("undo of none", s.undo(), BAD);
        s.form(8);
        s.make(8, 0, 0, 7);
        s.step(1, 7, 5, 0);
        s.price(7, 9);
        s.tell(2, 5);
        s.hook(3, 2, 1, 4);
        s.use(3, 6, 0, 77);
        s.least(0, 0, 1, 1);
        due("acts", s.count(1), 8);
        due("undo least", s.undo(), 7);
        due("forms", s.count(0), 2);
        due("looked", s.count(2), 1);
        due("undo use", s.undo(), 6);
        due("place 0", s.use(3, 2, 0, 0), 0);
        due("undo hook", s.undo(), 5);
        due("held", s.held(3), 0);
        due("undo tell", s.undo(), 4);
        due("undo price", s.undo(), 3);
        due("cost", s.cost(1), 9);
        due("undo step", s.undo(), 2);
        due("steps", s.steps(1), 5);
        due("undo make", s.undo(), 1);
        due("undo form", s.undo(), 0);
        due("forms", s.count(0), 0);
        due("undo of none", s.undo(), BAD);
        due("tell", s.tell(2, 0), 0);
    }

    private static void undoOf50() {
        DivideSmith s = new DivideSmith();
        for (int i = 1; i <= 50; i++) s.tell(0, i);
        due("50 acts", s.count(1), 50);
        for (int i = 51; i <= 60; i++) s.tell(0, i);
        due("60 acts, the latest 50", s.count(1), 50);
        for (int i = 49; i >= 0; i--) due("undo", s.undo(), i);
        due("undo of the 51st", s.undo(), BAD);
        due("the first ten stay", s.tell(0, 0), 10);
        DivideSmith t = withForms(1);
        for (int i = 0; i < 50; i++) t.price(0, 1);
        t.drop();
        due("the form's making was forgotten already", t.count(1), 50);
        t.held(9);
        t.form(9);
        t.use(0, 6, 0, 0);
        t.undo();
        t.steps(0);
        due("what is refused or asked is no act", t.count(1), 49);
    }

    private static void undoHooks() {
        DivideSmith s = withSteps(2);
        s.hook(0, 2, 0, 2);
        s.use(0, 6, 1, 5);
        s.hook(0, 1, 0, 0);
        due("acts", s.count(1), 6);
        due("undo the second hook", s.undo(), 5);
        due("the row as it was changed", s.use(0, 2, 1, 0), 5);
        due("undo use", s.undo(), 4);
        due("the row as it was made", s.use(0, 2, 1, 0), 1);
        s.hook(0, 0, 0, 0);
        due("NOTHING is an act, too", s.count(1), 5);
        s.undo();
        due("held", s.held(0), 2);
    }

    private static void hook() {
        DivideSmith s = withForms(2);
        s.step(1, 7, 0, 0);
        s.step(1, 5, 1, 1);
        due("hook 8", s.hook(8, 0, 0, 0), BAD);
        due("hook -1", s.hook(-1, 0, 0, 0), BAD);
        due("kind 6", s.hook(0, 6, 1, 0), BAD);
        due("kind -1", s.hook(0, -1, 1, 0), BAD);
        due("no such form", s.hook(0, 1, 2, 0), BAD);
        due("no such step", s.hook(0, 1, 1, 2), BAD);
        due("no such step", s.hook(0, 1, 1, -1), BAD);
        due("more steps than there are", s.hook(0, 2, 1, 3), BAD);
        due("k below 0", s.hook(0, 2, 1, -1), BAD);
        due("nothing changed", s.held(0), 0);
        due("kind 0 asks for no form", s.hook(0, 0, -9, -9), 0);
        due("ints", s.hook(0, 2, 1, 2), 0);
        due("longs", s.hook(1, 3, 1, 2), 0);
        due("bytes", s.hook(2, 4, 1, 2), 0);
        due("shorts", s.hook(3, 5, 1, 2), 0);
        due("step", s.hook(0, 1, 1, 1), 2);
        due("step again", s.hook(0, 1, 1, 0), 1);
        due("what bytes make of -1 and -2", s.use(2, 4, 0, 0), -1);
        due("what bytes make of -1 and -2", s.use(2, 4, 1, 0), -2);
        due("shorts", s.use(3, 5, 1, 0), 254);
        due("longs", s.use(1, 3, 1, 0), 254);
        due("a row of none", s.hook(4, 2, 0, 0), 0);
        due("it has no place 0", s.use(4, 2, 0, 0), PLACE);
        s.form(64);
        s.step(2, 7, 0, 0x1_2345_8678L);
        s.hook(5, 2, 2, 1);
        s.hook(6, 5, 2, 1);
        s.hook(7, 3, 2, 1);
        due("lowest 32 bits of what 64 make of 2", s.use(5, 2, 0, 0), 0x2345_8676);
        due("lowest 16 bits", s.use(6, 5, 0, 0), (short) 0x8676);
        due("a long as an int", s.use(7, 3, 0, 0), 0x2345_8676);
    }

    private static void held() {
        DivideSmith s = withSteps(1);
        for (int kind = 1; kind < 6; kind++) {
            s.hook(kind, kind, 0, 0);
            due("held(" + kind + ")", s.held(kind), kind);
        }
        s.hook(3, 0, 0, 0);
        due("held(3)", s.held(3), 0);
        due("held(8)", s.held(8), BAD);
        due("held(-1)", s.held(-1), BAD);
    }

    private static void useRefusals() {
        DivideSmith s = withSteps(2);
        for (int kind = 0; kind < 6; kind++) s.hook(kind, kind, 0, 1);
        int[] takes = {1, 1, 2, 3, 4, 5, 2, 2, 3, 2};
        for (int how = 0; how < 10; how++) {
            for (int kind = 0; kind < 6; kind++) {
                String call = "use(" + kind + ", " + how + ", -1, -1)";
                int refused = kind == 0 ? NOTHING : CAST;
                if (kind != takes[how] || how == 1) due(call, s.use(kind, how, -1, -1), refused);
                else if (how > 0) due(call, s.use(kind, how, -1, -1), how == 9 ? SIZE : PLACE);
            }
        }
        due("thrown NOTHING", s.use(0, 10, 0, 0), THROWN);
        for (int kind = 1; kind < 6; kind++) due("thrown", s.use(kind, 10, 0, 0), CAST);
        due("hook 8", s.use(8, 0, 0, 0), BAD);
        due("hook -1", s.use(-1, 0, 0, 0), BAD);
        due("how 11", s.use(0, 11, 0, 0), BAD);
        due("how -1", s.use(0, -1, 0, 0), BAD);
        due("size 101 of NOTHING", s.use(0, 9, 101, 0), BAD);
        due("size 101 of a step", s.use(1, 9, 101, 0), BAD);
        due("size 101", s.use(2, 9, 101, 0), BAD);
        due("size 100", s.use(2, 9, 100, 1), 1);
        due("acts", s.count(1), 9);
    }

    private static void useSteps() {
        DivideSmith s = new DivideSmith();
        s.form(64);
        for (int kind = 0; kind < 8; kind++) s.step(0, kind, 0, kind < 2 || kind > 4 ? 1 : 0x8000_0000_9000_0000L + kind);
        for (int kind = 0; kind < 8; kind++) {
            s.hook(0, 1, 0, kind);
            due("KIND", s.use(0, 0, 0, 0), kind);
            due("y", s.use(0, 1, 0, 0), kind < 2 || kind > 4 ? CAST : 0x9000_0000 + kind);
        }
    }

    private static void useRows() {
        DivideSmith s = withSteps(4);
        s.hook(0, 2, 0, 4);
        due("places of what is made of 0", s.use(0, 2, 1, 0), 1);
        due("set", s.use(0, 6, 0, -100), 0);
        due("set", s.use(0, 6, 1, 7), 1);
        due("set", s.use(0, 6, 3, 0), 2);
        due("quotient towards 0", s.use(0, 7, 0, 1), -14);
        due("by 0", s.use(0, 7, 0, 3), NOUGHT);
        due("no place x", s.use(0, 7, 4, 3), PLACE);
        due("no place y", s.use(0, 7, 0, 4), PLACE);
        due("y below 0", s.use(0, 7, 0, -1), PLACE);
        s.use(0, 6, 0, LOWEST);
        s.use(0, 6, 1, -1);
        due("the least int by -1", s.use(0, 7, 0, 1), LOWEST);
        due("set: no place", s.use(0, 6, 4, 1), PLACE);
        due("set: no place", s.use(0, 6, -1, 1), PLACE);
        for (int how = 2; how < 6; how++) {
            s.hook(1, how, 0, 2);
            due("place 1", s.use(1, how, 1, 99), 1);
            due("place 2", s.use(1, how, 2, 0), PLACE);
            due("place -1", s.use(1, how, -1, 0), PLACE);
            due("place least", s.use(1, how, LOWEST, 0), PLACE);
        }
    }

    private static void useRestAndCopy() {
        DivideSmith s = new DivideSmith();
        s.form(64);
        s.step(0, 7, 0, -17);
        s.step(0, 7, 0, 5);
        s.step(0, 7, 0, 0);
        s.step(0, 7, 0, 0x7_0000_0003L);
        s.step(0, 7, 0, 0x10_0000_0000L);
        s.hook(0, 3, 0, 5);
        due("rest", s.use(0, 8, 0, 1), -2);
        due("by 0", s.use(0, 8, 0, 2), NOUGHT);
        due("no place y", s.use(0, 8, 0, 5), PLACE);
        due("no place x", s.use(0, 8, 5, 2), PLACE);
        due("64 bits go in", s.use(0, 8, 4, 3), (int) (0x10_0000_0000L % 0x7_0000_0003L));
        s.hook(1, 2, 0, 3);
        int acts = s.count(1);
        due("copy 3 of 3", s.use(1, 9, 5, 3), 3);
        due("copy none", s.use(1, 9, 0, 0), 0);
        due("copy more than there are", s.use(1, 9, 5, 4), PLACE);
        due("copy more than the size", s.use(1, 9, 2, 3), PLACE);
        due("copy fewer than none", s.use(1, 9, 2, -1), PLACE);
        due("size below 0", s.use(1, 9, -1, -1), SIZE);
        due("the hook's row stays", s.use(1, 9, 3, 3), 3);
        due("no act", s.count(1), acts);
    }

    private static void constants() {
        due("BAD", DivideSmith.BAD, BAD);
        due("FULL", DivideSmith.FULL, FULL);
        due("NONE", DivideSmith.NONE, NONE);
        due("CAST", DivideSmith.CAST, CAST);
        due("NOTHING", DivideSmith.NOTHING, NOTHING);
        due("PLACE", DivideSmith.PLACE, PLACE);
        due("SIZE", DivideSmith.SIZE, SIZE);
        due("THROWN", DivideSmith.THROWN, THROWN);
        due("NOUGHT", DivideSmith.NOUGHT, NOUGHT);
    }

    private static void toPromise12() {
        constants();
        promise = 1;
        newObject();
        promise = 2;
        form();
        promise = 3;
        step();
        promise = 4;
        makePlain();
        makeSigned();
        makeWrong();
        promise = 5;
        drop();
        whatFormsAre();
        promise = 11;
        run();
        promise = 12;
        end();
    }

    private static void fromPromise13() {
        promise = 13;
        fails();
        promise = 14;
        plain();
        promise = 15;
        proof();
        promise = 16;
        check();
        promise = 17;
        inverse();
        promise = 18;
        tell();
        promise = 19;
        least();
        leastOrder();
        leastWrong();
        promise = 20;
        count();
        promise = 21;
        undo();
        undoOf50();
        undoHooks();
        promise = 22;
        hook();
        promise = 23;
        held();
        promise = 24;
        useRefusals();
        useSteps();
        useRows();
        useRestAndCopy();
    }

    public static void main(String[] args) {
        toPromise12();
        fromPromise13();
        System.out.println(wrong == 0 ? "all promises hold" : wrong + " answers are not as due");
        if (wrong != 0) System.exit(1);
    }
}
