/** Promises 1 to 14: forms, their steps, and what they make. */
final class FormEdges extends Edges {
    FormEdges(Sentences sentences) {
        super(sentences);
    }

    @Override
    void all() {
        newObject();
        form();
        step();
        stepOfY();
        make();
        makeOfD();
        drop();
        dropForgets();
        stepsAndTold();
        widthAndCost();
        price();
        runAndEnd();
        fails();
        failsRefused();
        plain();
        numbersOfForms();
    }

    private void newObject() {
        says(1, "No forms;");
        DivideSmith s = new DivideSmith();
        due("count(0)", s.count(0), 0);
        due("steps(0)", s.steps(0), BAD);
        due("width(0)", s.width(0), BAD);
        due("cost(0)", s.cost(0), BAD);
        due("told(0, 0, 0)", s.told(0, 0, 0), BAD);
        due("run(0, 7)", s.run(0, 7), 0);
        due("end(0, 7, 0)", s.end(0, 7, 0), 0);
        due("fails(0, 0, 0, 1)", s.fails(0, 0, 0, 1), BAD);
        due("step(0, 0, 0, 0)", s.step(0, 0, 0, 0), BAD);
        due("hook(0, 2, 0, 0)", s.hook(0, 2, 0, 0), BAD);
        due("drop()", s.drop(), BAD);
        due("undo()", s.undo(), BAD);
        due("the first has the number 0", s.form(8), 0);
        says(1, "all hooks hold NOTHING.");
        DivideSmith t = new DivideSmith();
        for (int h = 0; h < 8; h++) {
            due("held(" + h + ")", t.held(h), 0);
            due("use(" + h + ", 0, 0, 0)", t.use(h, 0, 0, 0), NOTHING);
        }
        due("what one object does, another does not see", withForms(3, 8).count(0) - new DivideSmith().count(0), 3);
    }

    private void form() {
        says(2, "A new FORM without steps: its number.");
        DivideSmith s = new DivideSmith();
        for (int i = 0; i < 60; i++) {
            int w = WIDTHS[i % 4];
            due("form(" + w + ")", s.form(w), i);
            due("steps", s.steps(i), 0);
            due("width", s.width(i), w);
        }
        DivideSmith again = withLength(12);
        again.drop();
        due("in the place of a form that had 12 steps", again.form(64), 0);
        due("steps", again.steps(0), 0);
        due("it makes the number", again.run(0, -1), -1);
        says(2, "BAD: no such width.");
        for (int w : NO_WIDTHS) due("form(" + w + ")", new DivideSmith().form(w), BAD);
        due("of 60 forms, too", withForms(60, 8).form(7), BAD);
        says(2, "FULL: there are 60.");
        due("the 60th", withForms(59, 8).form(16), 59);
        DivideSmith full = withForms(60, 8);
        for (int w : WIDTHS) due("the 61st", full.form(w), FULL);
        due("forms", full.count(0), 60);
        full.drop();
        due("after a drop", full.form(8), 59);
        full.undo();
        due("after an undo", full.form(8), 59);
        due("the 61st", full.form(8), FULL);
    }

    private void step() {
        says(3, "A form gets one more step: its number.");
        DivideSmith s = withForms(2, 16);
        for (int k = 0; k < 12; k++) {
            due("step", s.step(1, 7, k, 100 + k), k);
            due("steps", s.steps(1), k + 1);
        }
        for (int k = 0; k < 12; k++) due("y of step " + k, s.told(1, k, 2), 100 + k);
        due("the other form", s.steps(0), 0);
        says(3, "BAD: no such form, KIND, operand x;");
        DivideSmith t = withForms(2, 8);
        for (int f : new int[] {LOWEST, -1, 2, 59, 60, 61, GREATEST}) due("form " + f, t.step(f, 0, 0, 0), BAD);
        for (int kind : new int[] {LOWEST, -1, 13, 14, GREATEST}) due("KIND " + kind, t.step(0, kind, 0, 0), BAD);
        for (int x : new int[] {LOWEST, -1, 1, 12, 13, GREATEST}) due("x " + x, t.step(0, 0, x, 0), BAD);
        due("KIND 0", t.step(0, 0, 0, 0), 0);
        due("KIND 12", t.step(0, 12, 1, 1), 1);
        due("x 3", t.step(0, 12, 3, 1), BAD);
        due("x 2", t.step(0, 12, 2, 1), 2);
        says(3, "FULL: it has 12.");
        DivideSmith full = withLength(11);
        due("the 12th", full.step(0, 7, 11, 0), 11);
        due("the 13th", full.step(0, 7, 12, 0), FULL);
        due("the 13th, of operands", full.step(0, 5, 12, 12), FULL);
        due("the 13th, of a count", full.step(0, 10, 0, 7), FULL);
        due("BAD form comes first", full.step(1, 7, 0, 0), BAD);
        due("BAD KIND comes first", full.step(0, 13, 0, 0), BAD);
        due("BAD x comes first", full.step(0, 7, 13, 0), BAD);
        due("BAD y comes first", full.step(0, 5, 0, 13), BAD);
        due("BAD count comes first", full.step(0, 1, 0, 8), BAD);
        due("steps", full.steps(0), 12);
        due("undo", full.undo(), 12);
        due("after an undo", full.step(0, 7, 0, 0), 11);
    }

    private void stepOfY() {
        says(3, "or y, as the KIND takes it, is no operand (0 up to the number of steps),");
        for (int kind : new int[] {5, 6, 8, 12}) {
            DivideSmith s = withLength(3);
            for (long y : new long[] {-1, 4, 5, 12, 256, 1L << 32, (1L << 32) + 1, Long.MIN_VALUE, Long.MAX_VALUE}) {
                due("KIND " + kind + ", y " + y, s.step(0, kind, 0, y), BAD);
            }
            due("the number of steps", s.step(0, kind, 0, 3), 3);
            due("0", s.step(0, kind, 0, 0), 4);
        }
        says(3, "or no count.");
        for (int kind : new int[] {0, 1, 10}) {
            DivideSmith s = withForms(4, 8);
            s.drop();
            s.form(64);
            for (long y : new long[] {-1, 8, 9, 256, 1L << 32, (1L << 32) + 1, Long.MIN_VALUE, Long.MAX_VALUE}) {
                due("width 8, KIND " + kind + ", y " + y, s.step(0, kind, 0, y), BAD);
            }
            due("width 64, y 64", s.step(3, kind, 0, 64), BAD);
            due("width 64, y 63", s.step(3, kind, 0, 63), 0);
            due("width 8, y 7", s.step(0, kind, 0, 7), 0);
            due("width 8, y 0", s.step(0, kind, 0, 0), 1);
        }
        for (int kind : new int[] {2, 3, 4, 7, 9, 11}) {
            due("a number is any long, KIND " + kind, withForms(1, 8).step(0, kind, 0, -1), 0);
        }
    }

    private void make() {
        says(4, "BAD: no such width, signed (0, 1), wish;");
        DivideSmith s = new DivideSmith();
        for (int w : NO_WIDTHS) due("width " + w, s.make(w, 0, 0, 3), BAD);
        for (int signed : new int[] {LOWEST, -1, 2, GREATEST}) due("signed " + signed, s.make(8, signed, 0, 3), BAD);
        for (int wish : new int[] {LOWEST, -1, 6, GREATEST}) {
            due("wish " + wish, s.make(8, 0, wish, 3), BAD);
            due("SIGNED wish " + wish, s.make(8, 1, wish, 3), BAD);
        }
        due("forms", s.count(0), 0);
        says(4, "FULL.");
        due("the 60th", withForms(59, 8).make(64, 1, 3, 7), 59);
        DivideSmith full = withForms(60, 8);
        due("the 61st", full.make(8, 0, 0, 3), FULL);
        due("BAD width comes first", full.make(9, 0, 0, 3), BAD);
        due("BAD signed comes first", full.make(8, 2, 0, 3), BAD);
        due("BAD wish comes first", full.make(8, 0, 6, 3), BAD);
        due("BAD d comes first", full.make(8, 0, 0, 0), BAD);
        due("forms", full.count(0), 60);
        due("acts", full.count(1), 50);
    }

    private void makeOfD() {
        says(4, "d is 0 (its lowest N bits),");
        for (int w : WIDTHS) {
            DivideSmith s = new DivideSmith();
            for (int asking = 0; asking < 12; asking++) {
                due("d 0", s.make(w, asking / 6, asking % 6, 0), BAD);
                if (w < 64) due("d 2^N", s.make(w, asking / 6, asking % 6, 1L << w), BAD);
                if (w < 64) due("d -2^N", s.make(w, asking / 6, asking % 6, -1L << w), BAD);
            }
            due("d the upper bit alone", s.make(w, 0, 0, half(w)), 0);
            if (w < 64) due("d 2^N + 1", s.make(w, 0, 0, (1L << w) + 1), 1);
        }
        says(4, "or, for SIGNED 1 and 3, not above 0.");
        for (int w : WIDTHS) {
            DivideSmith s = new DivideSmith();
            for (int wish : new int[] {1, 3}) {
                due("d -1", s.make(w, 1, wish, -1), BAD);
                due("the least d", s.make(w, 1, wish, half(w)), BAD);
                due("the least d and 1", s.make(w, 1, wish, half(w) + 1), BAD);
                if (w < 64) due("upper bits go first", s.make(w, 1, wish, Long.MIN_VALUE + half(w)), BAD);
            }
            due("forms", s.count(0), 0);
            due("the greatest d", s.make(w, 1, 1, half(w) - 1), 0);
            due("d 1", s.make(w, 1, 3, 1), 1);
            if (w < 64) due("a long below 0 whose number is above", s.make(w, 1, 3, Long.MIN_VALUE + 5), 2);
            due("PLAIN 1", s.make(w, 0, 1, -1), w < 64 ? 3 : 2);
            due("PLAIN 3", s.make(w, 0, 3, half(w)), w < 64 ? 4 : 3);
        }
    }

    private void drop() {
        says(5, "The form that was made last goes.");
        DivideSmith s = new DivideSmith();
        s.form(8);
        s.make(16, 0, 0, 7);
        s.tell(0, 0);
        s.least(0, 0, 1, 1);
        due("forms", s.count(0), 3);
        s.drop();
        due("least's is gone", s.steps(2), BAD);
        due("make's stays", s.steps(1), 5);
        s.drop();
        due("make's is gone", s.steps(1), BAD);
        due("form's stays", s.width(0), 8);
        due("run of what is gone", s.run(1, 7), 0);
        due("a new one has its number", s.form(32), 1);
        says(5, "BAD: there is none.");
        due("of a new object", new DivideSmith().drop(), BAD);
        DivideSmith t = withForms(1, 8);
        t.drop();
        due("after the last", t.drop(), BAD);
        DivideSmith u = withForms(1, 8);
        u.undo();
        due("after an undo", u.drop(), BAD);
        due("forms", u.count(0), 0);
        says(5, "How many are left.");
        DivideSmith full = withForms(60, 8);
        for (int left = 59; left >= 0; left--) due("drop()", full.drop(), left);
        due("drop()", full.drop(), BAD);
    }

    private void dropForgets() {
        says(5, "(It can't be undone;");
        DivideSmith s = withForms(2, 8);
        s.drop();
        due("it is no act", s.count(1), 1);
        due("undo undoes what was ahead", s.undo(), 0);
        due("forms", s.count(0), 0);
        due("and no more", s.undo(), BAD);
        says(5, "acts on it that could be are no more.)");
        DivideSmith t = new DivideSmith();
        t.form(8);
        t.price(0, 9);
        t.form(16);
        t.step(1, 7, 0, 1);
        t.step(0, 7, 0, 1);
        t.step(1, 7, 0, 2);
        t.tell(1, 6);
        t.hook(2, 1, 1, 1);
        t.hook(3, 2, 1, 2);
        t.use(3, 6, 0, 5);
        due("acts", t.count(1), 10);
        due("drop", t.drop(), 1);
        due("the making and two steps are no more", t.count(1), 7);
        due("what hooks hold stays", t.use(2, 0, 0, 0) + t.use(3, 2, 0, 0), 12);
        for (int left = 6; left >= 4; left--) due("undo of use, hook, hook", t.undo(), left);
        due("held", t.held(2) + t.held(3), 0);
        due("undo of tell", t.undo(), 3);
        due("undo of the other form's step", t.undo(), 2);
        due("its steps", t.steps(0), 0);
        due("undo of price", t.undo(), 1);
        due("undo of the other form", t.undo(), 0);
        due("undo of none", t.undo(), BAD);
        for (int made = 0; made < 2; made++) {
            DivideSmith u = new DivideSmith();
            due("make or least", made == 0 ? u.make(8, 0, 0, 3) : u.least(0, 0, 1, 1), 0);
            u.drop();
            due("no act of it is left", u.count(1), 0);
            due("undo", u.undo(), BAD);
        }
        DivideSmith next = withForms(1, 8);
        next.step(0, 7, 0, 1);
        next.drop();
        next.form(8);
        next.step(0, 7, 0, 1);
        due("a new form of its number has its own acts", next.undo(), 1);
        due("undo", next.undo(), 0);
    }

    private void stepsAndTold() {
        says(6, "How many steps. BAD.");
        for (int k = 0; k <= 12; k++) due("of " + k, withLength(k).steps(0), k);
        DivideSmith s = withForms(60, 8);
        for (int f : new int[] {LOWEST, -1, 60, 61, GREATEST}) due("steps(" + f + ")", s.steps(f), BAD);
        due("steps(59)", s.steps(59), 0);
        due("steps(1) of one form", withForms(1, 8).steps(1), BAD);
        says(7, "Of step k of a form: what = 0 its KIND, 1 its x, 2 its y (of a number of the width: the lowest N bits).");
        DivideSmith t = withSteps(16, 9, 0, -2, 12, 1, 0, 1, 2, 15);
        dueSteps("told", t, 0, 9, 0, 65534, 12, 1, 0, 1, 2, 15);
        due("a y of 64 bits", withSteps(64, 4, 0, Long.MIN_VALUE).told(0, 0, 2), Long.MIN_VALUE);
        says(7, "BAD (it may be -1, too): no such form, step, what.");
        for (int f : new int[] {LOWEST, -1, 1, 60, GREATEST}) due("form " + f, t.told(f, 0, 0), BAD);
        for (int k : new int[] {LOWEST, -1, 3, 11, 12, GREATEST}) due("step " + k, t.told(0, k, 0), BAD);
        for (int what : new int[] {LOWEST, -1, 3, GREATEST}) due("what " + what, t.told(0, 0, what), BAD);
        due("of a form without steps", withForms(1, 8).told(0, 0, 0), BAD);
        due("a y of -1", withSteps(64, 4, 0, -1).told(0, 0, 2), -1);
        t.undo();
        due("a step that was undone", t.told(0, 2, 0), BAD);
    }

    private void widthAndCost() {
        says(8, "A form's width; BAD.");
        DivideSmith s = new DivideSmith();
        for (int w : WIDTHS) s.form(w);
        for (int f = 0; f < 4; f++) due("width(" + f + ")", s.width(f), WIDTHS[f]);
        for (int f : new int[] {LOWEST, -1, 4, 60, GREATEST}) due("width(" + f + ")", s.width(f), BAD);
        s.undo();
        due("of a form that was undone", s.width(3), BAD);
        says(9, "A form's COST. BAD.");
        DivideSmith t = withLength(12);
        t.form(8);
        due("of 12 steps", t.cost(0), 12);
        due("of none", t.cost(1), 0);
        t.price(7, 50);
        due("at the greatest price", t.cost(0), 600);
        due("of none", t.cost(1), 0);
        for (int f : new int[] {LOWEST, -1, 2, 60, GREATEST}) due("cost(" + f + ")", t.cost(f), BAD);
    }

    private void price() {
        says(10, "The PRICE of a KIND becomes c: what it was.");
        DivideSmith s = withSteps(8, 12, 0, 0, 0, 0, 0, 2, 0, 0);
        due("price(2, 50)", s.price(2, 50), 4);
        due("price(2, 1)", s.price(2, 1), 50);
        due("cost", s.cost(0), 3);
        due("price(12, 7)", s.price(12, 7), 1);
        due("price(0, 3)", s.price(0, 3), 1);
        due("cost", s.cost(0), 11);
        due("to what it is already", s.price(0, 3), 3);
        says(10, "BAD: no such KIND, or price.");
        for (int kind : new int[] {LOWEST, -1, 13, GREATEST}) due("KIND " + kind, s.price(kind, 5), BAD);
        for (int c : new int[] {LOWEST, -1, 0, 51, GREATEST}) due("price " + c, s.price(0, c), BAD);
        due("nothing changed", s.price(0, 1), 3);
        due("acts", s.count(1), 10);
    }

    private void runAndEnd() {
        says(11, "What a form MAKES of a number.");
        for (int w : WIDTHS) {
            due("without steps", withForms(1, w).run(0, -1), greatest(w));
            due("0, without steps", withForms(1, w).run(0, 0), 0);
            due("of one step", withSteps(w, 7, 0, 0).run(0, 1), greatest(w));
        }
        DivideSmith twelve = withForms(1, 8);
        for (int k = 0; k < 12; k++) twelve.step(0, 5, k, 0);
        due("of 12 steps, wrapping", twelve.run(0, 100), 1300 % 256);
        says(11, "0 if there is no such form.");
        for (int f : new int[] {LOWEST, -1, 1, 59, 60, GREATEST}) due("run(" + f + ", 7)", twelve.run(f, 7), 0);
        says(12, "What step k made of a number;");
        for (int k = 0; k < 12; k++) due("end(0, 100, " + k + ")", twelve.end(0, 100, k), (k + 2) * 100 % 256);
        due("the number's lowest bits", twelve.end(0, 256 + 3, 0), 6);
        due("64 bits", withSteps(64, 7, 0, 0, 0, 0, 63).end(0, Long.MIN_VALUE, 0), Long.MIN_VALUE);
        says(12, "0 if there is no such form, step.");
        for (int f : new int[] {LOWEST, -1, 1, 60, GREATEST}) due("form " + f, twelve.end(f, 7, 0), 0);
        for (int k : new int[] {LOWEST, -1, 12, 13, GREATEST}) due("step " + k, twelve.end(0, 7, k), 0);
        due("of a form without steps", withForms(1, 8).end(0, 7, 0), 0);
        twelve.undo();
        due("a step that was undone", twelve.end(0, 7, 11), 0);
        due("the one ahead of it", twelve.end(0, 7, 10), 84);
    }

    private void fails() {
        says(13, "The least PLAIN number at which a form is not RIGHT for an asking of its width;");
        for (int w : new int[] {8, 16}) {
            DivideSmith s = withForms(1, w);
            due("at 0", s.fails(0, 0, 4, 2), 0);
            due("at 1", s.fails(0, 0, 0, 2), 1);
            due("at 2", s.fails(0, 0, 5, 2), 2);
            due("at the greatest", s.fails(0, 0, 2, -1), greatest(w));
            due("SIGNED numbers below 0 come last", s.fails(0, 1, 2, half(w)), half(w));
            due("SIGNED, at d", s.fails(0, 1, 2, half(w) - 1), half(w) - 1);
            due("SIGNED, wish 3, at d", s.fails(0, 1, 3, 100), 100);
        }
        says(13, "NONE: it is RIGHT.");
        for (int w : new int[] {8, 16}) {
            DivideSmith s = withForms(2, w);
            s.step(1, 4, 0, 0);
            due("the quotient by 1, without steps", s.fails(0, 0, 0, 1), NONE);
            due("SIGNED likewise", s.fails(0, 1, 1, 1), NONE);
            due("the rest by 1", s.fails(1, 0, 2, 1), NONE);
            due("the rest by -1", s.fails(1, 1, 2, -1), NONE);
            due("wish 5 by the greatest asks of 0 and it", s.fails(1, 0, 5, greatest(w)), greatest(w));
        }
    }

    private void failsRefused() {
        says(13, "BAD: no such form;");
        DivideSmith s = withForms(1, 8);
        for (int f : new int[] {LOWEST, -1, 1, 60, GREATEST}) due("fails(" + f + ", 0, 0, 1)", s.fails(f, 0, 0, 1), BAD);
        says(13, "its width is not 8 or 16;");
        due("8", withForms(1, 8).fails(0, 0, 0, 1), NONE);
        due("16", withForms(1, 16).fails(0, 0, 0, 1), NONE);
        due("32", withForms(1, 32).fails(0, 0, 0, 1), BAD);
        due("64", withForms(1, 64).fails(0, 0, 0, 1), BAD);
        says(13, "as make().");
        for (int w : new int[] {8, 16}) {
            DivideSmith t = withForms(60, w);
            for (int signed : new int[] {LOWEST, -1, 2, GREATEST}) due("signed " + signed, t.fails(0, signed, 0, 1), BAD);
            for (int wish : new int[] {LOWEST, -1, 6, GREATEST}) due("wish " + wish, t.fails(0, 0, wish, 1), BAD);
            due("d 0", t.fails(0, 0, 0, 0), BAD);
            due("d 2^N", t.fails(0, 1, 0, 1L << w), BAD);
            due("SIGNED 1, d -1", t.fails(0, 1, 1, -1), BAD);
            due("SIGNED 3, the least d", t.fails(0, 1, 3, half(w)), BAD);
            due("SIGNED 0, the least d", t.fails(0, 1, 0, half(w)), 1);
            due("60 forms are no hindrance", t.fails(59, 0, 0, 1), NONE);
        }
        due("2^8 is a divisor at width 16", withForms(1, 16).fails(0, 0, 2, 256), 256);
        due("200 is below 0 at width 8 alone", withForms(1, 16).fails(0, 1, 3, 200), 200);
    }

    private void plain() {
        says(14, "What the asking is of a number, by a plain division;");
        DivideSmith s = withForms(60, 8);
        due("at the greatest number", s.plain(64, 0, 0, 10, -1), 1844674407370955161L);
        due("its rest", s.plain(64, 0, 2, 10, -1), 5);
        due("both greatest", s.plain(64, 0, 0, -1, -1), 1);
        due("2^63 - 1 by 2^63", s.plain(64, 0, 0, Long.MIN_VALUE, Long.MAX_VALUE), 0);
        due("2^63 by 2^63 - 1", s.plain(64, 0, 2, Long.MAX_VALUE, Long.MIN_VALUE), 1);
        due("2^64 - 1 by 2^63 - 1", s.plain(64, 0, 0, Long.MAX_VALUE, -1), 2);
        due("the least by -1", s.plain(64, 1, 0, -1, Long.MIN_VALUE), Long.MIN_VALUE);
        due("SIGNED, downwards", s.plain(64, 1, 1, 3, Long.MIN_VALUE), -3074457345618258603L);
        says(14, "of wish 5 the quotient towards 0 also if there is a rest.");
        for (int w : WIDTHS) {
            due("PLAIN", s.plain(w, 0, 5, 7, 13), 1);
            due("SIGNED", s.plain(w, 1, 5, 7, -13), greatest(w));
            due("SIGNED, below d", s.plain(w, 1, 5, -7, -6), 0);
            due("2^N - 1 by 2", s.plain(w, 0, 5, 2, -1), half(w) - 1);
        }
        says(14, "0 if make() would answer BAD.");
        for (int w : NO_WIDTHS) due("width " + w, s.plain(w, 0, 0, 1, 5), 0);
        for (int signed : new int[] {LOWEST, -1, 2, GREATEST}) due("signed " + signed, s.plain(8, signed, 0, 1, 5), 0);
        for (int wish : new int[] {LOWEST, -1, 6, GREATEST}) due("wish " + wish, s.plain(8, 0, wish, 1, 5), 0);
        due("d 0", s.plain(8, 0, 4, 0, 0), 0);
        due("d 2^N", s.plain(16, 0, 4, 1L << 16, 0), 0);
        due("SIGNED 1, d -1", s.plain(64, 1, 1, -1, 5), 0);
        due("SIGNED 3, the least d", s.plain(32, 1, 3, 1L << 31, 5), 0);
        due("make() would answer FULL", s.plain(8, 0, 0, 1, 5), 5);
    }

    private void numbersOfForms() {
        says(TERMS, "FORMS have the numbers 0 .. 59, as they are made.");
        DivideSmith s = new DivideSmith();
        for (int f = 0; f < 60; f += 3) {
            due("form", s.form(8), f);
            due("make", s.make(16, 0, 2, 8), f + 1);
            if (f < 36) due("least", s.least(0, 0, 1, 1), f + 2);
            else due("form", s.form(64), f + 2);
        }
        due("form", s.form(8), FULL);
        due("make", s.make(8, 0, 0, 1), FULL);
        due("least", s.least(0, 0, 1, 1), FULL);
        due("form 59", s.width(59), 64);
        due("form 60", s.width(60), BAD);
    }
}
