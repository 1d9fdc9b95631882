/** The terms: widths, numbers, steps, KINDS, prices and askings. */
final class TermEdges extends Edges {
    private static final int[] OPERAND_KINDS = {5, 6, 8, 12};
    private static final int[] COUNT_KINDS = {0, 1, 10};
    private static final int[] NUMBER_KINDS = {2, 3, 4, 7, 9, 11};

    TermEdges(Sentences sentences) {
        super(sentences);
    }

    @Override
    void all() {
        saysOnly(TERMS, "A smithy for divisions by numbers that stand fast: rows of quick steps, multiplying and shifting, "
            + "that give for every number of a width what a plain division gives; made, worked step by step, tried on all "
            + "numbers, proved by whole numbers, and found anew as the cheapest of all short ones.");
        widths();
        calls();
        numbers();
        upperBits();
        lowestBits();
        forms();
        operandsAndCounts();
        shiftKinds();
        productKinds();
        sumKinds();
        bitKinds();
        choosingKinds();
        madeAndPrices();
        askings();
        quotients();
        rests();
        leastByMinusOne();
        right();
    }

    private void widths() {
        says(TERMS, "WIDTHS N are 8, 16, 32, 64.");
        for (int w : WIDTHS) {
            due("form(" + w + ")", new DivideSmith().form(w), 0);
            due("make(" + w + ", 0, 0, 3)", new DivideSmith().make(w, 0, 0, 3), 0);
            due("plain(" + w + ", 0, 0, 3, 7)", new DivideSmith().plain(w, 0, 0, 3, 7), 2);
            due("proof(" + w + ", 3, 0)", new DivideSmith().proof(w, 3, 0), 1);
            due("check(" + w + ", 1, 0, 0, 1)", new DivideSmith().check(w, 1, 0, 0, 1), 1);
            due("inverse(" + w + ", 1)", new DivideSmith().inverse(w, 1), 1);
        }
        for (int w = -300; w <= 300; w++) {
            if (w != 8 && w != 16 && w != 32 && w != 64) due("form(" + w + ")", new DivideSmith().form(w), BAD);
        }
    }

    private void calls() {
        says(TERMS, "An object is used for at most 512 calls after it has been made;");
        DivideSmith s = new DivideSmith();
        for (int i = 1; i <= 511; i++) due("call " + i, s.tell(0, i), i - 1);
        due("call 512", s.undo(), 49);
        saysOnly(TERMS, "what later calls answer is free.");
    }

    private void numbers() {
        says(TERMS, "A NUMBER of a width is N bits: PLAIN it is 0 .. 2^N - 1;");
        for (int w : WIDTHS) {
            long top = greatest(w);
            DivideSmith s = withSteps(w, 11, 0, top - 1);
            due("0 by 2^N - 1", s.plain(w, 0, 0, top, 0), 0);
            due("2^N - 1 by 1", s.plain(w, 0, 0, 1, top), top);
            due("2^N - 1 by 2", s.plain(w, 0, 0, 2, top), top >>> 1);
            due("2^N - 1 by itself", s.plain(w, 0, 0, top, top), 1);
            due("2^N - 2 by 2^N - 1", s.plain(w, 0, 0, top, top - 1), 0);
            due("2^N - 2 is at most 2^N - 2", s.run(0, top - 1), 1);
            due("2^N - 1 is not", s.run(0, top), 0);
            due("0 is", s.run(0, 0), 1);
            due("2^N is 0", s.run(0, w == 64 ? 0 : top + 1), 1);
        }
        says(TERMS, "SIGNED it is that less 2^N if its upper bit is set.");
        for (int w : WIDTHS) {
            long top = greatest(w), least = half(w);
            DivideSmith s = new DivideSmith();
            due("the least by 2", s.plain(w, 1, 0, 2, least), top - (least >>> 1) + 1);
            due("the greatest by 2", s.plain(w, 1, 0, 2, least - 1), (least - 1) >>> 1);
            due("the greatest by 1", s.plain(w, 1, 0, 1, least - 1), least - 1);
            due("-1 by 1", s.plain(w, 1, 0, 1, top), top);
            due("-1 by 2, downwards", s.plain(w, 1, 1, 2, top), top);
            due("-1 by 2, towards 0", s.plain(w, 1, 0, 2, top), 0);
            due("5 by -1", s.plain(w, 1, 0, top, 5), top - 4);
            due("the least by the least", s.plain(w, 1, 0, least, least), 1);
            due("the greatest by the least", s.plain(w, 1, 0, least, least - 1), 0);
        }
    }

    private void upperBits() {
        says(TERMS, "As a long a number is told by its lowest N bits (its others, if it comes in, are let go;");
        for (int w : new int[] {8, 16, 32}) {
            for (long up : new long[] {1L << w, -1L << w, Long.MIN_VALUE, 0x5A5AL << w}) {
                DivideSmith s = withSteps(w, 4, 0, up + 3);
                due("y", s.told(0, 0, 2), 3);
                due("run", s.run(0, up + 5), 15);
                due("end", s.end(0, up + 5, 0), 15);
                due("make", s.make(w, 0, 2, up + 8), 1);
                dueSteps("make", s, 1, 9, 0, 7);
                due("make of 0", s.make(w, 0, 0, up), BAD);
                due("plain", s.plain(w, 0, 0, up + 7, up + 50), 7);
                due("plain, SIGNED", s.plain(w, 1, 1, up + 7, up + greatest(w)), greatest(w));
                due("plain by 0", s.plain(w, 0, 4, up, 0), 0);
                due("proof", s.proof(w, up + 3, 0), 1);
                due("proof of 0", s.proof(w, up, 0), BAD);
                due("check", s.check(w, up + 1, 0, up, 1), 1);
                due("check of d 0", s.check(w, up, 0, 0, 1), BAD);
                due("inverse", s.inverse(w, up + greatest(w)), greatest(w));
                if (w < 32) due("fails", s.fails(0, 0, 0, up + 1), 1);
                if (w == 8) due("least", s.least(0, 0, up + 1, 1), 2);
                if (w == 8) due("least of 0", s.least(0, 0, up, 1), BAD);
            }
        }
        says(TERMS, "0 where it is told).");
        for (int w : new int[] {8, 16, 32}) {
            DivideSmith s = withSteps(w, 7, 0, -1);
            due("y -1", s.told(0, 0, 2), greatest(w));
            due("run", s.run(0, 1), greatest(w) - 1);
            due("run without steps", withForms(1, w).run(0, -1), greatest(w));
            due("end", s.end(0, 0, 0), greatest(w));
            due("plain", s.plain(w, 1, 0, -1, 1), greatest(w));
            due("rest", s.plain(w, 1, 2, 5, -1), greatest(w));
            due("inverse", s.inverse(w, -1), greatest(w));
            s.make(w, 1, 2, -3);
            due("d in MAKE", s.told(1, s.steps(1) - 2, 2), greatest(w) - 2);
        }
        due("M", new DivideSmith().proof(16, 7, 1), 9363);
    }

    private void lowestBits() {
        says(TERMS, "All steps keep the lowest N bits of what they make.");
        for (int w : WIDTHS) {
            long top = greatest(w), upper = half(w);
            due("0 of the greatest", withSteps(w, 0, 0, 0).run(0, -1), top);
            due("1 of the upper bit", withSteps(w, 1, 0, w - 1).run(0, upper), top);
            due("1 of the upper bit, by 0", withSteps(w, 1, 0, 0).run(0, upper), upper);
            due("2 of the greatest", withSteps(w, 2, 0, -1).run(0, -1), top - 1);
            due("3 of 1 and -1", withSteps(w, 3, 0, -1).run(0, 1), top);
            due("4 of -1 and -1", withSteps(w, 4, 0, -1).run(0, -1), 1);
            due("4 of the upper bit and 2", withSteps(w, 4, 0, 2).run(0, upper), 0);
            due("5 of -1 and -1", withSteps(w, 5, 0, 0).run(0, -1), top - 1);
            due("5 of the upper bit, twice", withSteps(w, 5, 0, 0).run(0, upper), 0);
            due("6 of 0 and 1", withSteps(w, 9, 0, 0, 6, 1, 0).run(0, 1), top);
            due("7 of 1 and 0", withSteps(w, 7, 0, 0).run(0, 1), top);
            due("7 of the upper bit and 0", withSteps(w, 7, 0, 0).run(0, upper), upper);
            due("8 of 0 and -1", withSteps(w, 7, 0, 0, 8, 0, 1).run(0, 1), top - 1);
            due("9 of -1 and -1", withSteps(w, 9, 0, -1).run(0, -1), top);
            due("10 of 1 by 1", withSteps(w, 10, 0, 1).run(0, 1), upper);
            due("10 of -1 by N - 1", withSteps(w, 10, 0, w - 1).run(0, -1), top);
            due("12 of -1 and -1", withSteps(w, 12, 0, 0).run(0, -1), top);
        }
    }

    private void forms() {
        says(TERMS, "A FORM has a width and at most 12 STEPS, numbered from 0.");
        for (int w : WIDTHS) {
            DivideSmith s = withForms(1, w);
            due("width", s.width(0), w);
            for (int k = 0; k < 12; k++) due("step", s.step(0, 9, k, k), k);
            due("step 12", s.step(0, 9, 0, 0), FULL);
            due("steps", s.steps(0), 12);
            for (int k = 0; k < 12; k++) due("told(0, " + k + ", 2)", s.told(0, k, 2), k);
            due("told(0, 12, 2)", s.told(0, 12, 2), BAD);
        }
        says(TERMS, "The operand 0 is the number that is asked, k + 1 what step k made.");
        DivideSmith s = withSteps(8, 7, 0, 100, 7, 0, 50, 6, 1, 2, 5, 0, 3, 6, 4, 1);
        due("end(0, 7, 0)", s.end(0, 7, 0), 93);
        due("end(0, 7, 1)", s.end(0, 7, 1), 43);
        due("operands 1 and 2", s.end(0, 7, 2), 50);
        due("operands 0 and 3", s.end(0, 7, 3), 57);
        due("operands 4 and 1", s.end(0, 7, 4), 220);
        DivideSmith long12 = withForms(1, 16);
        for (int k = 0; k < 12; k++) long12.step(0, 5, k, 0);
        due("operand 11 is what step 10 made", long12.run(0, 1000), 13000);
    }

    private void operandsAndCounts() {
        says(TERMS, "A step has a KIND, an operand x (of what is ahead of it), and y:");
        for (int kind = 0; kind < 13; kind++) {
            DivideSmith s = withForms(1, 8);
            for (int k = 0; k < 12; k++) {
                due("x below 0", s.step(0, kind, -1, 0), BAD);
                due("x is what the step itself makes", s.step(0, kind, k + 1, 0), BAD);
                due("x is what the step ahead made", s.step(0, kind, k, 0), k);
                due("its x", s.told(0, k, 1), k);
            }
        }
        says(TERMS, "for the KINDS 5, 6, 8, 12 an operand likewise,");
        for (int kind : OPERAND_KINDS) {
            DivideSmith s = withForms(1, 8);
            for (int k = 0; k < 12; k++) {
                due("y below 0", s.step(0, kind, 0, -1), BAD);
                due("y is what the step itself makes", s.step(0, kind, 0, k + 1), BAD);
                due("y by its lowest 8 bits", s.step(0, kind, 0, 256), BAD);
                due("y by its lowest 32 bits", s.step(0, kind, 0, 1L << 32), BAD);
                due("y is what the step ahead made", s.step(0, kind, 0, k), k);
                due("its y", s.told(0, k, 2), k);
            }
        }
        counts();
        says(TERMS, "for others a number of the width.");
        for (int kind : NUMBER_KINDS) {
            for (int w : WIDTHS) {
                for (long y : new long[] {0, 13, w, greatest(w), -1, half(w), Long.MIN_VALUE, Long.MAX_VALUE, 1L << 32}) {
                    DivideSmith s = withForms(1, w);
                    due("step(0, " + kind + ", 0, " + y + ")", s.step(0, kind, 0, y), 0);
                    due("its y", s.told(0, 0, 2), y & greatest(w));
                }
            }
        }
    }

    private void counts() {
        says(TERMS, "for 0, 1, 10 a count 0 .. N - 1,");
        for (int kind : COUNT_KINDS) {
            for (int w : WIDTHS) {
                DivideSmith s = withForms(1, w);
                for (long y : new long[] {-1, w, w + 1, 256, 1L << 16, 1L << 32, 1L << 40, Long.MIN_VALUE, Long.MAX_VALUE}) {
                    due("width " + w + ", step(0, " + kind + ", 0, " + y + ")", s.step(0, kind, 0, y), BAD);
                }
                due("count 0", s.step(0, kind, 0, 0), 0);
                due("count N - 1", s.step(0, kind, 0, w - 1), 1);
                due("its y", s.told(0, 1, 2), w - 1);
            }
        }
    }

    private void shiftKinds() {
        says(TERMS, "KINDS: 0 x moved down by y, zeros coming in;");
        for (int w : WIDTHS) {
            long top = greatest(w), upper = half(w);
            due("by 0", withSteps(w, 0, 0, 0).run(0, top), top);
            due("by 1", withSteps(w, 0, 0, 1).run(0, top), upper - 1);
            due("by N - 1", withSteps(w, 0, 0, w - 1).run(0, top), 1);
            due("by N - 1, of all but the upper bit", withSteps(w, 0, 0, w - 1).run(0, upper - 1), 0);
        }
        says(TERMS, "1 likewise, the upper bit coming in;");
        for (int w : WIDTHS) {
            long top = greatest(w), upper = half(w);
            due("by 0", withSteps(w, 1, 0, 0).run(0, upper + 1), upper + 1);
            due("by 1", withSteps(w, 1, 0, 1).run(0, upper), upper + (upper >>> 1));
            due("by 1, upper bit 0", withSteps(w, 1, 0, 1).run(0, upper - 1), (upper - 1) >>> 1);
            due("by N - 1", withSteps(w, 1, 0, w - 1).run(0, upper), top);
            due("by N - 1, upper bit 0", withSteps(w, 1, 0, w - 1).run(0, upper - 1), 0);
        }
        says(TERMS, "10 x rolled down by y (what goes out below comes in above);");
        for (int w : WIDTHS) {
            long upper = half(w);
            due("by 0", withSteps(w, 10, 0, 0).run(0, upper + 1), upper + 1);
            due("by 1", withSteps(w, 10, 0, 1).run(0, upper + 1), upper + (upper >>> 1));
            due("by N - 1", withSteps(w, 10, 0, w - 1).run(0, upper + 1), 3);
            due("by N / 2", withSteps(w, 10, 0, w / 2).run(0, 5), 5L << (w / 2));
        }
    }

    private void productKinds() {
        says(TERMS, "2 the upper N bits of the product of x and y, both PLAIN;");
        for (int w : WIDTHS) {
            long top = greatest(w), upper = half(w);
            due("2^N - 1 by itself", withSteps(w, 2, 0, top).run(0, top), top - 1);
            due("2^N - 1 by 1", withSteps(w, 2, 0, 1).run(0, top), 0);
            due("the upper bit by 2", withSteps(w, 2, 0, 2).run(0, upper), 1);
            due("the upper bit less 1 by 2", withSteps(w, 2, 0, 2).run(0, upper - 1), 0);
            due("the upper bit by itself", withSteps(w, 2, 0, upper).run(0, upper), upper >>> 1);
            due("by 0", withSteps(w, 2, 0, 0).run(0, top), 0);
        }
        // 2^32 - 1 by 2^32 + 1 is 2^64 - 1: all that is carried stays below
        due("no carry", withSteps(64, 2, 0, 0x1_0000_0001L).run(0, 0xFFFF_FFFFL), 0);
        due("a carry", withSteps(64, 2, 0, 0x1_0000_0001L).run(0, 0x1_0000_0000L), 1);
        says(TERMS, "3 the same, both SIGNED;");
        for (int w : WIDTHS) {
            long top = greatest(w), upper = half(w);
            due("-1 by -1", withSteps(w, 3, 0, top).run(0, top), 0);
            due("-1 by 1", withSteps(w, 3, 0, 1).run(0, top), top);
            due("1 by -1", withSteps(w, 3, 0, top).run(0, 1), top);
            due("0 by -1", withSteps(w, 3, 0, top).run(0, 0), 0);
            due("-1 by 0", withSteps(w, 3, 0, 0).run(0, top), 0);
            due("1 by 0", withSteps(w, 3, 0, 0).run(0, 1), 0);
            due("the least by itself", withSteps(w, 3, 0, upper).run(0, upper), upper >>> 1);
            due("the least by the greatest", withSteps(w, 3, 0, upper - 1).run(0, upper), top - (upper >>> 1) + 1);
            due("the greatest by itself", withSteps(w, 3, 0, upper - 1).run(0, upper - 1), (upper >>> 1) - 1);
        }
        says(TERMS, "4 the lower N bits of that product;");
        for (int w : WIDTHS) {
            long top = greatest(w), upper = half(w);
            due("-1 by -1", withSteps(w, 4, 0, top).run(0, top), 1);
            due("the upper bit by 2", withSteps(w, 4, 0, 2).run(0, upper), 0);
            due("the upper bit by 3", withSteps(w, 4, 0, 3).run(0, upper), upper);
            due("2^N - 1 by 2", withSteps(w, 4, 0, 2).run(0, top), top - 1);
        }
    }

    private void sumKinds() {
        says(TERMS, "5 x + y;");
        for (int w : WIDTHS) {
            due("5 and 10", withSteps(w, 7, 0, 15, 5, 0, 1).run(0, 5), 15);
            due("2^N - 1 and 1", withSteps(w, 7, 0, 0, 5, 0, 1).run(0, 1), 0);
            due("the upper bit and itself", withSteps(w, 5, 0, 0).run(0, half(w)), 0);
        }
        says(TERMS, "6 x - y;");
        for (int w : WIDTHS) {
            due("5 less 10", withSteps(w, 7, 0, 15, 6, 0, 1).run(0, 5), greatest(w) - 4);
            due("10 less 5", withSteps(w, 7, 0, 15, 6, 1, 0).run(0, 5), 5);
            due("5 less 5", withSteps(w, 6, 0, 0).run(0, 5), 0);
        }
        says(TERMS, "7 y - x;");
        for (int w : WIDTHS) {
            due("10 less 5", withSteps(w, 7, 0, 10).run(0, 5), 5);
            due("5 less 10", withSteps(w, 7, 0, 5).run(0, 10), greatest(w) - 4);
            due("0 less the least", withSteps(w, 7, 0, 0).run(0, half(w)), half(w));
            due("0 less 0", withSteps(w, 7, 0, 0).run(0, 0), 0);
        }
    }

    private void bitKinds() {
        says(TERMS, "8 the exclusive or of x and y;");
        for (int w : WIDTHS) {
            due("of a number and itself", withSteps(w, 8, 0, 0).run(0, -1), 0);
            due("12 and 10", withSteps(w, 7, 0, 22, 8, 0, 1).run(0, 12), 6);
            due("with all bits", withSteps(w, 1, 0, w - 1, 8, 0, 1).run(0, half(w)), half(w) - 1);
        }
        says(TERMS, "9 the bits that are set in both x and y;");
        for (int w : WIDTHS) {
            due("12 and 10", withSteps(w, 9, 0, 10).run(0, 12), 8);
            due("-1 and the upper bit", withSteps(w, 9, 0, half(w)).run(0, -1), half(w));
            due("with 0", withSteps(w, 9, 0, 0).run(0, -1), 0);
        }
    }

    private void choosingKinds() {
        says(TERMS, "11 1 if x is at most y, both PLAIN, else 0;");
        for (int w : WIDTHS) {
            long top = greatest(w), upper = half(w);
            due("y", withSteps(w, 11, 0, 5).run(0, 5), 1);
            due("y + 1", withSteps(w, 11, 0, 5).run(0, 6), 0);
            due("y - 1", withSteps(w, 11, 0, 5).run(0, 4), 1);
            due("the upper bit and one less", withSteps(w, 11, 0, upper - 1).run(0, upper), 0);
            due("one less and the upper bit", withSteps(w, 11, 0, upper).run(0, upper - 1), 1);
            due("0 and 0", withSteps(w, 11, 0, 0).run(0, 0), 1);
            due("2^N - 1 and 0", withSteps(w, 11, 0, 0).run(0, top), 0);
            due("2^N - 1 and itself", withSteps(w, 11, 0, top).run(0, top), 1);
        }
        says(TERMS, "12 y if x's upper bit is set, else 0.");
        for (int w : WIDTHS) {
            DivideSmith s = withSteps(w, 7, 0, 3, 12, 0, 1);
            due("the upper bit", s.run(0, half(w)), half(w) + 3);
            due("one less", s.run(0, half(w) - 1), 0);
            due("all bits", s.run(0, -1), 4);
            due("0", s.run(0, 0), 0);
        }
    }

    private void madeAndPrices() {
        says(TERMS, "What a form MAKES of a number is what its last step makes; without steps that number.");
        for (int w : WIDTHS) {
            due("without steps", withForms(1, w).run(0, -2), greatest(w) - 1);
            due("of one step", withSteps(w, 7, 0, 9).run(0, 2), 7);
            due("of two steps", withSteps(w, 7, 0, 9, 4, 0, 3).run(0, 2), 6);
        }
        says(TERMS, "Each KIND has a PRICE 1 .. 50, at first 1, but 4 for 2 and 3, 3 for 4;");
        int[] first = {1, 1, 4, 4, 3, 1, 1, 1, 1, 1, 1, 1, 1};
        DivideSmith s = new DivideSmith();
        for (int kind = 0; kind < 13; kind++) {
            due("price 0", s.price(kind, 0), BAD);
            due("price 51", s.price(kind, 51), BAD);
            due("price 50", s.price(kind, 50), first[kind]);
            due("price 1", s.price(kind, 1), 50);
            due("price 2", s.price(kind, 2), 1);
        }
        says(TERMS, "a form's COST is the sum of its steps'.");
        due("without steps", withForms(1, 8).cost(0), 0);
        DivideSmith t = withForms(2, 8);
        for (int kind = 0; kind < 12; kind++) t.step(0, kind, 0, 0);
        t.step(1, 12, 0, 0);
        due("of twelve KINDS", t.cost(0), 20);
        due("of the thirteenth", t.cost(1), 1);
        for (int kind = 0; kind < 12; kind++) t.price(kind, 50);
        due("the greatest", t.cost(0), 600);
        due("the other form", t.cost(1), 1);
    }

    private void askings() {
        says(TERMS, "An ASKING has a width, SIGNED (1) or PLAIN (0), a divisor d that is not 0 "
            + "(a number of the width, SIGNED or PLAIN so), and a WISH:");
        for (int w : WIDTHS) {
            for (int wrong : new int[] {LOWEST, -1, 2, 256, GREATEST}) {
                due("signed " + wrong, new DivideSmith().make(w, wrong, 0, 3), BAD);
                due("signed " + wrong, new DivideSmith().plain(w, wrong, 0, 1, 3), 0);
            }
            for (int wrong : new int[] {LOWEST, -1, 6, 256, GREATEST}) {
                due("wish " + wrong, new DivideSmith().make(w, 0, wrong, 3), BAD);
                due("wish " + wrong, new DivideSmith().plain(w, 0, wrong, 1, 3), 0);
            }
            for (int signed = 0; signed < 2; signed++) {
                for (int wish = 0; wish < 6; wish++) {
                    due("d 0", new DivideSmith().make(w, signed, wish, 0), BAD);
                    due("d 0", new DivideSmith().plain(w, signed, wish, 0, 0), 0);
                    due("d 1", new DivideSmith().make(w, signed, wish, 1), 0);
                }
            }
            due("d -1, PLAIN", new DivideSmith().plain(w, 0, 0, -1, 7), 0);
            due("d -1, SIGNED", new DivideSmith().plain(w, 1, 0, -1, 7), greatest(w) - 6);
        }
        says(TERMS, "SIGNED 1 and 3 ask for d above 0.");
        for (int w : WIDTHS) {
            for (int wish : new int[] {1, 3}) {
                for (long d : new long[] {-1, half(w), half(w) + 1, greatest(w), -7}) {
                    due("make", new DivideSmith().make(w, 1, wish, d), BAD);
                    due("plain", new DivideSmith().plain(w, 1, wish, d, 100), 0);
                    due("make, PLAIN", new DivideSmith().make(w, 0, wish, d), 0);
                }
                due("the greatest", new DivideSmith().make(w, 1, wish, half(w) - 1), 0);
                due("1", new DivideSmith().make(w, 1, wish, 1), 0);
            }
            for (int wish : new int[] {0, 2, 4, 5}) {
                due("the other wishes", new DivideSmith().make(w, 1, wish, half(w)), 0);
                due("the other wishes", new DivideSmith().make(w, 1, wish, -1), 0);
            }
        }
    }

    private void duePlain(int w, int signed, int wish, long d, long n, long want) {
        String call = "(" + w + ", " + signed + ", " + wish + ", " + d + ", " + n + ")";
        DivideSmith s = new DivideSmith();
        due("plain" + call, s.plain(w, signed, wish, d, n), want & greatest(w));
        s.make(w, signed, wish, d);
        due("what make makes" + call, s.run(0, n), want & greatest(w));
    }

    private void quotients() {
        says(TERMS, "0 the quotient towards 0;");
        for (int w : WIDTHS) {
            duePlain(w, 0, 0, 7, 6, 0);
            duePlain(w, 0, 0, 7, 7, 1);
            duePlain(w, 0, 0, -1, -1, 1);
            duePlain(w, 0, 0, -1, -2, 0);
            duePlain(w, 0, 0, half(w), -1, 1);
            duePlain(w, 1, 0, 7, -6, 0);
            duePlain(w, 1, 0, 7, -7, -1);
            duePlain(w, 1, 0, -7, 13, -1);
            duePlain(w, 1, 0, -7, -14, 2);
            duePlain(w, 1, 0, half(w), half(w), 1);
            duePlain(w, 1, 0, half(w), half(w) - 1, 0);
        }
        says(TERMS, "1 the quotient downwards;");
        for (int w : WIDTHS) {
            duePlain(w, 0, 1, 7, -1, w == 8 ? 36 : w == 16 ? 9362 : w == 32 ? 613566756L : 2635249153387078802L);
            duePlain(w, 1, 1, 7, -1, -1);
            duePlain(w, 1, 1, 7, -7, -1);
            duePlain(w, 1, 1, 7, -8, -2);
            duePlain(w, 1, 1, 7, 6, 0);
            duePlain(w, 1, 1, 1, half(w), half(w));
            duePlain(w, 1, 1, half(w) - 1, half(w), -2);
            duePlain(w, 1, 1, half(w) - 1, half(w) + 1, -1);
        }
        says(TERMS, "5 the quotient, asked only of numbers without a rest.");
        for (int w : WIDTHS) {
            duePlain(w, 0, 5, 3, -1, Long.divideUnsigned(greatest(w), 3));
            duePlain(w, 0, 5, -1, -1, 1);
            duePlain(w, 0, 5, 6, 0, 0);
            duePlain(w, 1, 5, -6, 18, -3);
            duePlain(w, 1, 5, half(w), half(w), 1);
            duePlain(w, 1, 5, 2, half(w), -(half(w) >>> 1));
        }
        due("a form that is right of the multiples of 3 alone", withSteps(8, 4, 0, 171).fails(0, 0, 5, 3), NONE);
        due("it is wrong of the others", withSteps(8, 4, 0, 171).fails(0, 0, 0, 3), 1);
        due("SIGNED, wrong at the least", withSteps(8, 0, 0, 7).fails(0, 1, 5, -128), NONE);
        due("SIGNED, wrong at the least", withSteps(8, 9, 0, 0).fails(0, 1, 5, -128), 128);
    }

    private void rests() {
        says(TERMS, "2 the rest that 0 leaves (n less d times it),");
        for (int w : WIDTHS) {
            duePlain(w, 0, 2, 7, 6, 6);
            duePlain(w, 0, 2, 7, 7, 0);
            duePlain(w, 0, 2, -1, -1, 0);
            duePlain(w, 0, 2, -1, -2, -2);
            duePlain(w, 1, 2, 7, -8, -1);
            duePlain(w, 1, 2, -7, 8, 1);
            duePlain(w, 1, 2, half(w), -1, -1);
            duePlain(w, 1, 2, half(w), half(w), 0);
        }
        says(TERMS, "3 the rest that 1 leaves;");
        for (int w : WIDTHS) {
            duePlain(w, 0, 3, 7, 6, 6);
            duePlain(w, 1, 3, 7, -8, 6);
            duePlain(w, 1, 3, 7, -7, 0);
            duePlain(w, 1, 3, 7, 8, 1);
            duePlain(w, 1, 3, half(w) - 1, half(w), half(w) - 2);
            duePlain(w, 1, 3, 1, half(w), 0);
        }
        says(TERMS, "4 1 if there is no rest, else 0;");
        for (int w : WIDTHS) {
            duePlain(w, 0, 4, 7, 0, 1);
            duePlain(w, 0, 4, 7, 49, 1);
            duePlain(w, 0, 4, 7, 50, 0);
            duePlain(w, 0, 4, -1, -1, 1);
            duePlain(w, 0, 4, -1, -2, 0);
            duePlain(w, 1, 4, -6, -18, 1);
            duePlain(w, 1, 4, -6, -17, 0);
            duePlain(w, 1, 4, half(w), half(w), 1);
            duePlain(w, 1, 4, half(w), 1, 0);
        }
    }

    private void leastByMinusOne() {
        says(TERMS, "(The least SIGNED number by -1 is itself, with rest 0.)");
        for (int w : WIDTHS) {
            duePlain(w, 1, 0, -1, half(w), half(w));
            duePlain(w, 1, 2, -1, half(w), 0);
            duePlain(w, 1, 4, -1, half(w), 1);
            duePlain(w, 1, 5, -1, half(w), half(w));
        }
        due("fails", withSteps(8, 7, 0, 0).fails(0, 1, 0, -1), NONE);
        due("fails, rest", withSteps(16, 9, 0, 0).fails(0, 1, 2, -1), NONE);
        due("asked of, too", withSteps(16, 7, 0, 0).fails(0, 1, 5, -1), NONE);
    }

    private void right() {
        says(TERMS, "A form is RIGHT for an asking if it makes, of all numbers that it asks of, just that.");
        for (int w : new int[] {8, 16}) {
            long top = greatest(w), upper = half(w);
            due("the number by 1", withForms(1, w).fails(0, 0, 0, 1), NONE);
            due("wrong at 2^N - 1 alone", withForms(1, w).fails(0, 0, 2, -1), top);
            due("wrong at 0", withSteps(w, 9, 0, 0).fails(0, 0, 4, top), 0);
            due("right of n below d", withSteps(w, 9, 0, 0).fails(0, 0, 0, upper), upper);
            due("SIGNED, wrong at the least alone", withForms(1, w).fails(0, 1, 2, upper), upper);
            due("asked of 0 and d", withSteps(w, 0, 0, w - 1).fails(0, 0, 5, upper), NONE);
            due("asked of 0 and d, wrong at d", withSteps(w, 9, 0, 0).fails(0, 0, 5, upper), upper);
        }
    }
}
