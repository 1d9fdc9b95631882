/** Promises 22 to 24: hooks, and what is refused when what they hold is used. */
final class HookEdges extends Edges {
    private static final int[] NO_HOOKS = {LOWEST, -1, 8, 9, GREATEST};
    /** For each how but 10 the kind of holding that it takes. */
    private static final int[] TAKES = {1, 1, 2, 3, 4, 5, 2, 2, 3, 2};

    HookEdges(Sentences sentences) {
        super(sentences);
    }

    @Override
    void all() {
        hooks();
        holdsNothingOrStep();
        holdsRow();
        rowOfForm();
        whatItHeld();
        hookRefused();
        held();
        steps();
        places();
        setting();
        dividing();
        rests();
        copying();
        throwing();
        useRefused();
        nothing();
        cast();
        size();
        noPlace();
        noPlaceOfCopies();
        nought();
        constants();
    }

    /** Hook h holds kind h, for h 0 .. 5; steps and rows are of a form that makes 5, 6, 0 of its number 0. */
    private static DivideSmith withAllKinds() {
        DivideSmith s = withMade(5, 6, 0);
        for (int kind = 0; kind < 6; kind++) s.hook(kind, kind, 0, kind == 1 ? 0 : 3);
        return s;
    }

    private void hooks() {
        says(TERMS, "HOOKS 0 .. 7 hold NOTHING (at first), a STEP, or a ROW: of ints, longs, bytes or shorts.");
        for (int h = 0; h < 8; h++) {
            DivideSmith s = withMade(5, 6, 7);
            for (int kind = 0; kind < 6; kind++) {
                due("hook(" + h + ", " + kind + ", 0, 2)", s.hook(h, kind, 0, 2), kind == 0 ? 0 : kind - 1);
                for (int other = 0; other < 8; other++) {
                    due("held(" + other + ")", s.held(other), other == h ? kind : 0);
                }
            }
        }
        for (int h : NO_HOOKS) due("held(" + h + ")", withMade(5).held(h), BAD);
    }

    private void holdsNothingOrStep() {
        says(22, "A hook holds: kind 0 NOTHING;");
        DivideSmith s = withAllKinds();
        for (int h = 0; h < 6; h++) {
            due("hook(" + h + ", 0, 0, 0)", s.hook(h, 0, 0, 0), h);
            due("held", s.held(h), 0);
            due("use", s.use(h, 2, 0, 0), NOTHING);
        }
        for (int any : new int[] {LOWEST, -1, 1, 60, GREATEST}) {
            due("it asks for no form", s.hook(0, 0, any, 0), 0);
            due("it asks for no step", s.hook(0, 0, 0, any), 0);
        }
        due("of an object without forms", new DivideSmith().hook(7, 0, 0, 0), 0);
        says(22, "1 step k of form f, as it is;");
        DivideSmith t = withForms(2, 64);
        for (int k = 0; k < 12; k++) t.step(1, k < 6 ? 4 : 3, k, 100 + k);
        for (int k = 0; k < 12; k++) {
            t.hook(0, 1, 1, k);
            due("KIND of step " + k, t.use(0, 0, 0, 0), k < 6 ? 4 : 3);
            due("y of step " + k, t.use(0, 1, 0, 0), 100 + k);
        }
        DivideSmith u = withSteps(8, 4, 0, 9);
        u.hook(0, 1, 0, 0);
        u.drop();
        u.form(8);
        u.step(0, 2, 0, 1);
        due("the hook's step stays as it was: KIND", u.use(0, 0, 0, 0), 4);
        due("the hook's step stays as it was: y", u.use(0, 1, 0, 0), 9);
    }

    private void holdsRow() {
        says(22, "2 .. 5 a ROW of ints, longs, bytes, shorts:");
        DivideSmith s = withAllKinds();
        for (int kind = 2; kind < 6; kind++) {
            for (int how = 2; how < 6; how++) {
                due("use(" + kind + ", " + how + ", 0, 0)", s.use(kind, how, 0, 0), how == kind ? 5 : CAST);
            }
        }
        says(22, "as ints, longs, bytes, shorts: their lowest bits.");
        long made = 0x8000_0001_C001_90F3L;
        DivideSmith t = withMade(made, 127, 128, 255, 256, 32767, 32768, 65535, 65536, Integer.MAX_VALUE, 1L << 31, 1L << 32);
        for (int kind = 2; kind < 6; kind++) t.hook(kind, kind, 0, 12);
        int[] ints = {0xC001_90F3, 127, 128, 255, 256, 32767, 32768, 65535, 65536, GREATEST, LOWEST, 0};
        for (int k = 0; k < 12; k++) {
            due("int " + k, t.use(2, 2, k, 0), ints[k]);
            due("long as an int " + k, t.use(3, 3, k, 0), ints[k]);
            due("byte " + k, t.use(4, 4, k, 0), (byte) ints[k]);
            due("short " + k, t.use(5, 5, k, 0), (short) ints[k]);
        }
        due("a long keeps its upper bits: 2^32 by 2^31", t.use(3, 8, 11, 10), 0);
        due("a long keeps its upper bits: 2^32 by 255", t.use(3, 8, 11, 3), 1);
    }

    private void rowOfForm() {
        says(22, "what the first steps of form f, as many as k tells (0 .. as many as it has),");
        DivideSmith s = withLength(12);
        for (int kind = 2; kind < 6; kind++) {
            for (int k = 0; k <= 12; k++) {
                due("hook(0, " + kind + ", 0, " + k + ")", s.hook(0, kind, 0, k), kind == 2 && k == 0 ? 0 : k == 0 ? kind - 1 : kind);
                if (k > 0) due("its last place", s.use(0, kind, k - 1, 0), s.end(0, 0, k - 1));
                due("one more", s.use(0, kind, k, 0), PLACE);
            }
            due("more than it has", s.hook(0, kind, 0, 13), BAD);
        }
        DivideSmith none = withForms(1, 8);
        due("of a form without steps: none", none.hook(0, 2, 0, 0), 0);
        due("of a form without steps: one", none.hook(0, 2, 0, 1), BAD);
        says(22, "make of the number that f's number is (f as a long),");
        DivideSmith t = withForms(60, 8);
        for (int f : new int[] {0, 1, 2, 59}) {
            t.step(f, 4, 0, 3);
            t.step(f, 7, 1, 0);
            t.hook(0, 2, f, 2);
            due("3 f", t.use(0, 2, 0, 0), 3 * f);
            due("0 less 3 f, of 8 bits", t.use(0, 2, 1, 0), -3 * f & 255);
        }
    }

    private void whatItHeld() {
        says(22, "The kind of what it held.");
        for (int from = 0; from < 6; from++) {
            for (int to = 0; to < 6; to++) {
                DivideSmith s = withMade(5, 6);
                s.hook(3, from, 0, 1);
                due("from " + from + " to " + to, s.hook(3, to, 0, 1), from);
                due("and now", s.hook(3, 0, 0, 0), to);
            }
        }
    }

    private void hookRefused() {
        says(22, "BAD: no such hook, kind, or (but for 0) form, step, k.");
        DivideSmith s = withMade(5, 6);
        s.hook(0, 3, 0, 2);
        for (int h : NO_HOOKS) {
            for (int kind = 0; kind < 6; kind++) due("hook " + h, s.hook(h, kind, 0, 1), BAD);
        }
        for (int kind : new int[] {LOWEST, -1, 6, 7, GREATEST}) due("kind " + kind, s.hook(0, kind, 0, 1), BAD);
        for (int kind = 1; kind < 6; kind++) {
            for (int f : new int[] {LOWEST, -1, 1, 60, GREATEST}) due("form " + f, s.hook(0, kind, f, 0), BAD);
            for (int k : new int[] {LOWEST, -1, 3, 12, 13, GREATEST}) due("k " + k, s.hook(0, kind, 0, k), BAD);
        }
        due("there is no step 2", s.hook(0, 1, 0, 2), BAD);
        due("what it held stays", s.held(0), 3);
        due("and is as it was", s.use(0, 3, 1, 0), 6);
        due("no acts", s.count(1), 4);
        due("there is a step 1", s.hook(0, 1, 0, 1), 3);
        due("there are 2 steps", s.hook(0, 2, 0, 2), 1);
    }

    private void held() {
        says(23, "What a hook holds. BAD.");
        DivideSmith s = withAllKinds();
        for (int h = 0; h < 8; h++) due("held(" + h + ")", s.held(h), h < 6 ? h : 0);
        for (int h : NO_HOOKS) due("held(" + h + ")", s.held(h), BAD);
        s.hook(7, 2, 0, 0);
        due("a row of none is a row", s.held(7), 2);
        s.undo();
        due("after an undo", s.held(7), 0);
    }

    private void steps() {
        says(24, "What a hook holds is taken for something, and asked. how = 0: a step: its KIND.");
        for (int kind = 0; kind < 13; kind++) {
            DivideSmith s = withSteps(8, kind, 0, 0);
            s.hook(0, 1, 0, 0);
            due("KIND " + kind, s.use(0, 0, 0, 0), kind);
            due("x and y are not looked at", s.use(0, 0, LOWEST, GREATEST), kind);
        }
        says(24, "1: a step of KIND 2, 3 or 4: its y's lowest 32 bits.");
        for (int kind = 0; kind < 13; kind++) {
            boolean taken = kind >= 2 && kind <= 4;
            for (long y : new long[] {0, 1, 0x7FFF_FFFFL, 0x8000_0000L, -1, 1L << 32, Long.MIN_VALUE + 3}) {
                DivideSmith s = withSteps(64, kind, 0, taken ? y : 0);
                s.hook(0, 1, 0, 0);
                due("KIND " + kind + ", y " + y, s.use(0, 1, LOWEST, GREATEST), taken ? (int) y : CAST);
            }
        }
        DivideSmith s = withSteps(8, 4, 0, -1);
        s.hook(0, 1, 0, 0);
        due("of width 8, -1 is 255", s.use(0, 1, 0, 0), 255);
    }

    private void places() {
        says(24, "2 .. 5: a row of ints, longs, bytes, shorts: what stands at place x, as an int.");
        DivideSmith s = withMade(-1, 128, Long.MIN_VALUE + 9);
        for (int kind = 2; kind < 6; kind++) {
            s.hook(kind, kind, 0, 3);
            due("-1", s.use(kind, kind, 0, 0), -1);
            due("128", s.use(kind, kind, 1, 0), kind == 4 ? -128 : 128);
            due("the last place", s.use(kind, kind, 2, 0), 9);
            for (int y : new int[] {LOWEST, -1, 3, GREATEST}) due("y is not looked at", s.use(kind, kind, 2, y), 9);
        }
    }

    private void setting() {
        says(24, "6: a row of ints: place x becomes y: what it was.");
        DivideSmith s = withMade(5, 6);
        s.hook(0, 2, 0, 2);
        s.hook(1, 2, 0, 2);
        due("the least int", s.use(0, 6, 0, LOWEST), 5);
        due("the greatest int", s.use(0, 6, 0, GREATEST), LOWEST);
        due("the last place", s.use(0, 6, 1, -1), 6);
        due("place 0", s.use(0, 2, 0, 0), GREATEST);
        due("place 1", s.use(0, 2, 1, 0), -1);
        due("another hook's row of the same form", s.use(1, 2, 0, 0), 5);
        due("the form", s.run(0, 0), 6);
        due("acts", s.count(1), 8);
        for (int other = 3; other < 6; other++) {
            s.hook(2, other, 0, 2);
            due("a row of something else", s.use(2, 6, 0, 1), CAST);
        }
    }

    private void dividing() {
        says(24, "7: a row of ints: what stands at place x, divided by what stands at place y.");
        DivideSmith s = withMade(-7, 2, Integer.MIN_VALUE, -1, Integer.MAX_VALUE);
        s.hook(0, 2, 0, 5);
        due("-7 by 2, towards 0", s.use(0, 7, 0, 1), -3);
        due("2 by -7", s.use(0, 7, 1, 0), 0);
        due("the least by -1 wraps around", s.use(0, 7, 2, 3), LOWEST);
        due("the greatest by -1", s.use(0, 7, 4, 3), -GREATEST);
        due("the least by the greatest", s.use(0, 7, 2, 4), -1);
        due("by itself", s.use(0, 7, 2, 2), 1);
        due("the row stays", s.use(0, 2, 2, 0), LOWEST);
        due("no act", s.count(1), 7);
    }

    private void rests() {
        says(24, "8: a row of longs: likewise, the rest, as an int.");
        DivideSmith s = withMade(-7, 2, Long.MIN_VALUE, -1, Long.MAX_VALUE, (1L << 40) + 5, 1L << 40, 3);
        s.hook(0, 3, 0, 8);
        due("-7 by 2", s.use(0, 8, 0, 1), -1);
        due("2 by -7", s.use(0, 8, 1, 0), 2);
        due("the least by -1", s.use(0, 8, 2, 3), 0);
        due("the least by the greatest", s.use(0, 8, 2, 4), -1);
        due("the greatest by the least", s.use(0, 8, 4, 2), -1);
        due("all its bits", s.use(0, 8, 5, 6), 5);
        due("all its bits", s.use(0, 8, 6, 7), 1);
        due("the rest's lowest bits", s.use(0, 8, 6, 5), 0);
        due("no act", s.count(1), 10);
    }

    private void copying() {
        says(24, "9: a new row of ints of size x (at most 100, else BAD) gets the first y of a row of ints, copied: y.");
        DivideSmith s = withAllKinds();
        for (int y = 0; y <= 3; y++) {
            due("size 100", s.use(2, 9, 100, y), y);
            due("just as large", s.use(2, 9, y, y), y);
        }
        for (int size : new int[] {101, 102, 1000, GREATEST}) {
            for (int h = 0; h < 6; h++) {
                due("size " + size + " of kind " + h, s.use(h, 9, size, 0), BAD);
                due("size " + size + ", y below 0", s.use(h, 9, size, -1), BAD);
            }
        }
        due("100 is a size for a row alone", s.use(3, 9, 100, 0), CAST);
        due("101 is a place in the other ways", s.use(2, 2, 101, 0), PLACE);
        due("the hook's row has its places", s.use(2, 2, 2, 0), 0);
        due("and no more", s.use(2, 2, 3, 0), PLACE);
        due("no act", s.count(1), 10);
        s.hook(2, 2, 0, 0);
        due("of a row of none", s.use(2, 9, 0, 0), 0);
        due("of a row of none", s.use(2, 9, 5, 0), 0);
        due("of a row of none", s.use(2, 9, 5, 1), PLACE);
    }

    private void throwing() {
        says(24, "10: what it holds is thrown.");
        DivideSmith s = withAllKinds();
        for (int h = 0; h < 8; h++) {
            due("of hook " + h, s.use(h, 10, 0, 0), h >= 1 && h <= 5 ? CAST : THROWN);
            due("x and y are not looked at", s.use(h, 10, 101, LOWEST), h >= 1 && h <= 5 ? CAST : THROWN);
            due("it holds it still", s.held(h), h < 6 ? h : 0);
        }
    }

    private void useRefused() {
        says(24, "BAD: no such hook, or how.");
        DivideSmith s = withAllKinds();
        for (int h : NO_HOOKS) {
            for (int how = 0; how <= 10; how++) due("use(" + h + ", " + how + ", 0, 0)", s.use(h, how, 0, 0), BAD);
        }
        for (int how : new int[] {LOWEST, -1, 11, 12, GREATEST}) {
            for (int h = 0; h < 8; h++) due("use(" + h + ", " + how + ", 0, 0)", s.use(h, how, 0, 0), BAD);
        }
    }

    private void nothing() {
        says(24, "NOTHING: it holds NOTHING (in 10: THROWN).");
        DivideSmith s = withAllKinds();
        for (int h : new int[] {0, 6, 7}) {
            for (int how = 0; how < 10; how++) {
                due("use(" + h + ", " + how + ", 0, 0)", s.use(h, how, 0, 0), NOTHING);
                due("use(" + h + ", " + how + ", -1, -1)", s.use(h, how, -1, -1), NOTHING);
            }
            due("thrown", s.use(h, 10, 0, 0), THROWN);
        }
    }

    private void cast() {
        says(24, "CAST: it holds something else than what it is taken for (in 10: always, but for NOTHING).");
        DivideSmith s = withAllKinds();
        for (int how = 0; how < 10; how++) {
            for (int kind = 1; kind < 6; kind++) {
                if (kind == TAKES[how] && how != 1) continue;
                due("use(" + kind + ", " + how + ", 0, 0)", s.use(kind, how, 0, 0), CAST);
                due("ahead of SIZE, PLACE and NOUGHT", s.use(kind, how, -1, -1), CAST);
                due("ahead of PLACE and NOUGHT", s.use(kind, how, 3, 2), CAST);
            }
        }
        for (int kind = 1; kind < 6; kind++) due("thrown", s.use(kind, 10, 0, 0), CAST);
    }

    private void size() {
        says(24, "Then SIZE (9): x is below 0.");
        DivideSmith s = withAllKinds();
        for (int x : new int[] {LOWEST, -100, -1}) {
            for (int y : new int[] {LOWEST, -1, 0, 3, 4, GREATEST}) due("ahead of PLACE", s.use(2, 9, x, y), SIZE);
        }
        due("0 is a size", s.use(2, 9, 0, 0), 0);
        due("a place below 0 is no size", s.use(2, 2, -1, 0), PLACE);
    }

    private void noPlace() {
        says(24, "Then PLACE: there is no place x, or y, in this order (2 .. 8);");
        DivideSmith s = withAllKinds();
        for (int wrong : new int[] {LOWEST, -1, 3, 4, 100, 101, GREATEST}) {
            for (int how = 2; how <= 8; how++) {
                due("how " + how + ", x " + wrong, s.use(TAKES[how], how, wrong, 0), PLACE);
                due("how " + how + ", x " + wrong + ", y no place, too", s.use(TAKES[how], how, wrong, wrong), PLACE);
            }
            for (int how = 7; how <= 8; how++) {
                due("how " + how + ", y " + wrong, s.use(TAKES[how], how, 0, wrong), PLACE);
                due("how " + how + ", x no place, the divisor 0", s.use(TAKES[how], how, wrong, 2), PLACE);
            }
        }
        due("y is what the place becomes, not a place", s.use(2, 6, 0, 99), 5);
        due("place 2 is there", s.use(2, 6, 2, 9), 0);
        due("no place, no change", s.count(1), 12);
        s.hook(2, 2, 0, 0);
        due("a row of none has no place 0", s.use(2, 2, 0, 0), PLACE);
        due("a row of none has no place 0", s.use(2, 6, 0, 0), PLACE);
        due("a row of none has no place 0", s.use(2, 7, 0, 0), PLACE);
    }

    private void noPlaceOfCopies() {
        says(24, "y is below 0, or greater than x or than the size of the row (9).");
        DivideSmith s = withAllKinds();
        for (int y : new int[] {LOWEST, -1}) {
            due("y " + y, s.use(2, 9, 3, y), PLACE);
            due("y " + y + ", size 0", s.use(2, 9, 0, y), PLACE);
        }
        due("greater than x", s.use(2, 9, 2, 3), PLACE);
        due("greater than x, 0", s.use(2, 9, 0, 1), PLACE);
        due("greater than the row", s.use(2, 9, 100, 4), PLACE);
        due("greater than both", s.use(2, 9, 100, GREATEST), PLACE);
        due("neither", s.use(2, 9, 3, 3), 3);
    }

    private void nought() {
        says(24, "Then NOUGHT: the divisor is 0 (7, 8).");
        DivideSmith s = withAllKinds();
        for (int x = 0; x < 3; x++) {
            due("ints", s.use(2, 7, x, 2), NOUGHT);
            due("longs", s.use(3, 8, x, 2), NOUGHT);
        }
        due("the dividend may be 0", s.use(2, 7, 2, 0), 0);
        due("the dividend may be 0", s.use(3, 8, 2, 0), 0);
        s.use(2, 6, 2, 1);
        due("no longer 0", s.use(2, 7, 0, 2), 5);
        s.undo();
        due("0 again", s.use(2, 7, 0, 2), NOUGHT);
        DivideSmith t = withMade(7, 1L << 32);
        t.hook(0, 2, 0, 2);
        t.hook(1, 3, 0, 2);
        due("2^32 as an int is 0", t.use(0, 7, 0, 1), NOUGHT);
        due("2^32 as a long is not", t.use(1, 8, 0, 1), 7);
    }

    private void constants() {
        says(TERMS, "The constants: `CAST = -11, NOTHING = -12, PLACE = -13, SIZE = -14, THROWN = -15, NOUGHT = -16`: "
            + "What use() answers when the host refuses: a kind taken for another one, nothing there, a place that there is "
            + "not, a size below 0, what cannot be thrown, a division by 0.");
        due("CAST", DivideSmith.CAST, CAST);
        due("NOTHING", DivideSmith.NOTHING, NOTHING);
        due("PLACE", DivideSmith.PLACE, PLACE);
        due("SIZE", DivideSmith.SIZE, SIZE);
        due("THROWN", DivideSmith.THROWN, THROWN);
        due("NOUGHT", DivideSmith.NOUGHT, NOUGHT);
        DivideSmith s = withAllKinds();
        due("a kind taken for another one", s.use(1, 2, 0, 0), CAST);
        due("nothing there", s.use(0, 2, 0, 0), NOTHING);
        due("a place that there is not", s.use(2, 2, 3, 0), PLACE);
        due("a size below 0", s.use(2, 9, -1, 0), SIZE);
        due("what cannot be thrown", s.use(0, 10, 0, 0), THROWN);
        due("a division by 0", s.use(2, 7, 0, 2), NOUGHT);
    }
}
