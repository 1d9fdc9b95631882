/** What MAKE writes, line by line of the document, at the divisors where a line takes the other way. */
final class MakeEdges extends Edges {
    MakeEdges(Sentences sentences) {
        super(sentences);
    }

    @Override
    void all() {
        sizes();
        plainQuotient();
        greatQuotient();
        plainWishes();
        plainExact();
        signedPowers();
        signedQuotient();
        signedDownwards();
        signedRests();
        signedExact();
        everyFormIsRight();
    }

    private void dueMade(int w, int signed, int wish, long d, long... rows) {
        DivideSmith s = new DivideSmith();
        String call = "make(" + w + ", " + signed + ", " + wish + ", " + d + ")";
        due(call, s.make(w, signed, wish, d), 0);
        dueSteps(call, s, 0, rows);
    }

    private void sizes() {
        says(TERMS, "MAKE writes the form of an asking down so; D is the size of d (d if PLAIN), E the greatest E with D "
            + "a multiple of 2^E, O = D / 2^E; each line is steps, their operands being what the line's words say:");
        for (int w : WIDTHS) {
            dueMade(w, 0, 0, half(w), 0, 0, w - 1);
            dueMade(w, 1, 0, half(w), 1, 0, w - 1, 0, 1, 1, 5, 0, 2, 1, 3, w - 1, 7, 4, 0);
            dueMade(w, 0, 5, greatest(w), 4, 0, greatest(w));
            dueMade(w, 1, 0, greatest(w), 7, 0, 0);
            dueMade(w, 0, 0, 1, 0, 0, 0);
            long inverseOf3 = Long.divideUnsigned(greatest(w), 3) * 2 + 1;
            dueMade(w, 0, 5, 3 * (half(w) >>> 1), 0, 0, w - 2, 4, 1, inverseOf3);
            dueMade(w, 1, 5, 3 * (half(w) >>> 2), 1, 0, w - 3, 4, 1, inverseOf3);
        }
    }

    private void plainQuotient() {
        says(TERMS, "Q, the PLAIN quotient of some operand z by D: if O is 1: KIND 0 of z by E.");
        for (int w : WIDTHS) {
            for (int e = 0; e < w; e++) dueMade(w, 0, 0, 1L << e, 0, 0, e);
            dueMade(w, 1, 1, 1, 1, 0, w - 1, 8, 0, 1, 0, 2, 0, 8, 3, 1);
            dueMade(w, 1, 1, half(w) >>> 1, 1, 0, w - 1, 8, 0, 1, 0, 2, w - 2, 8, 3, 1);
        }
        says(TERMS, "Else let S be the least number from 0 on for which M, the least whole number not below "
            + "2^(N + S) / D, has M D - 2^(N + S) (its MISS) at most 2^S.");
        // MISS is just 2^S, at S = 0
        dueMade(32, 0, 0, 641, 2, 0, 6700417);
        dueMade(32, 0, 0, 6700417, 2, 0, 641);
        dueMade(64, 0, 0, 274177, 2, 0, 67280421310721L);
        dueMade(64, 0, 0, 67280421310721L, 2, 0, 274177);
        // one S less has a MISS of 2^S + 1
        dueMade(8, 0, 0, 3, 2, 0, 171, 0, 1, 1);
        dueMade(8, 0, 0, 5, 2, 0, 205, 0, 1, 2);
        dueMade(8, 0, 0, 17, 2, 0, 241, 0, 1, 4);
        dueMade(16, 0, 0, 3, 2, 0, 43691, 0, 1, 1);
        dueMade(64, 0, 0, 3, 2, 0, -6148914691236517205L, 0, 1, 1);
        // an even D takes all of its own S
        dueMade(8, 0, 0, 6, 2, 0, 171, 0, 1, 2);
        dueMade(8, 0, 0, 10, 2, 0, 205, 0, 1, 3);
        says(TERMS, "If M is below 2^N: KIND 2 of z with M; then, if S is above 0, KIND 0 of that by S.");
        dueMade(32, 0, 1, 641, 2, 0, 6700417);
        dueMade(8, 0, 1, 3, 2, 0, 171, 0, 1, 1);
        dueMade(8, 0, 0, 129, 2, 0, 255, 0, 1, 7);
        dueMade(16, 0, 0, 32769, 2, 0, 65535, 0, 1, 15);
        dueMade(8, 0, 0, 255, 2, 0, 129, 0, 1, 7);
        dueMade(64, 0, 0, -1, 2, 0, Long.MIN_VALUE + 1, 0, 1, 63);
        dueMade(32, 1, 1, 641, 1, 0, 31, 8, 0, 1, 2, 2, 6700417, 8, 3, 1);
    }

    private void greatQuotient() {
        says(TERMS, "Else: h: KIND 2 of z with M - 2^N; 6 of z and h; 0 of that by 1; 5 of that and h; then, if S is above 1, "
            + "0 of that by S - 1.");
        dueMade(8, 0, 0, 7, 2, 0, 37, 6, 0, 1, 0, 2, 1, 5, 3, 1, 0, 4, 2);
        dueMade(8, 0, 0, 254, 2, 0, 3, 6, 0, 1, 0, 2, 1, 5, 3, 1, 0, 4, 7);
        dueMade(8, 0, 0, 140, 2, 0, 213, 6, 0, 1, 0, 2, 1, 5, 3, 1, 0, 4, 7);
        dueMade(16, 0, 0, 65534, 2, 0, 3, 6, 0, 1, 0, 2, 1, 5, 3, 1, 0, 4, 15);
        dueMade(32, 0, 0, 7, 2, 0, 613566757, 6, 0, 1, 0, 2, 1, 5, 3, 1, 0, 4, 2);
        dueMade(32, 0, 0, -2, 2, 0, 3, 6, 0, 1, 0, 2, 1, 5, 3, 1, 0, 4, 31);
        dueMade(64, 0, 0, 7, 2, 0, 2635249153387078803L, 6, 0, 1, 0, 2, 1, 5, 3, 1, 0, 4, 2);
        dueMade(64, 0, 0, -2, 2, 0, 3, 6, 0, 1, 0, 2, 1, 5, 3, 1, 0, 4, 63);
        dueMade(8, 1, 1, 7, 1, 0, 7, 8, 0, 1, 2, 2, 37, 6, 2, 3, 0, 4, 1, 5, 5, 3, 0, 6, 2, 8, 7, 1);
    }

    private void plainWishes() {
        says(TERMS, "PLAIN wish 0, 1: Q of the number.");
        for (int wish = 0; wish < 2; wish++) {
            dueMade(8, 0, wish, 1, 0, 0, 0);
            dueMade(8, 0, wish, 3, 2, 0, 171, 0, 1, 1);
            dueMade(8, 0, wish, -1, 2, 0, 129, 0, 1, 7);
        }
        says(TERMS, "2, 3: if O is 1, KIND 9 of the number with D - 1; else Q, then 4 of that with D, then 6 of the number "
            + "and that.");
        for (int wish = 2; wish < 4; wish++) {
            for (int w : WIDTHS) {
                dueMade(w, 0, wish, 1, 9, 0, 0);
                dueMade(w, 0, wish, 2, 9, 0, 1);
                dueMade(w, 0, wish, half(w), 9, 0, half(w) - 1);
                dueMade(w, 0, wish, -1, 2, 0, half(w) + 1, 0, 1, w - 1, 4, 2, greatest(w), 6, 0, 3);
            }
            dueMade(32, 0, wish, 641, 2, 0, 6700417, 4, 1, 641, 6, 0, 2);
            dueMade(8, 0, wish, 7, 2, 0, 37, 6, 0, 1, 0, 2, 1, 5, 3, 1, 0, 4, 2, 4, 5, 7, 6, 0, 6);
        }
        says(TERMS, "4: KIND 4 of the number with I, I O being 1 by 2^N (lowest N bits); then, if E is above 0, 10 of that "
            + "by E; then 11 of that with the quotient of 2^N - 1 by D.");
        for (int w : WIDTHS) {
            dueMade(w, 0, 4, 1, 4, 0, 1, 11, 1, greatest(w));
            dueMade(w, 0, 4, 2, 4, 0, 1, 10, 1, 1, 11, 2, half(w) - 1);
            dueMade(w, 0, 4, half(w), 4, 0, 1, 10, 1, w - 1, 11, 2, 1);
            dueMade(w, 0, 4, -1, 4, 0, greatest(w), 11, 1, 1);
            dueMade(w, 0, 4, -2, 4, 0, half(w) - 1, 10, 1, 1, 11, 2, 1);
        }
        dueMade(8, 0, 4, 3, 4, 0, 171, 11, 1, 85);
        dueMade(8, 0, 4, 12, 4, 0, 171, 10, 1, 2, 11, 2, 21);
        dueMade(64, 0, 4, 3, 4, 0, -6148914691236517205L, 11, 1, 6148914691236517205L);
    }

    private void plainExact() {
        says(TERMS, "5: if E is above 0, or O is 1, KIND 0 of the number by E; then, if O is not 1, 4 of that (of the number, "
            + "if E is 0) with I.");
        for (int w : WIDTHS) {
            dueMade(w, 0, 5, 1, 0, 0, 0);
            dueMade(w, 0, 5, 2, 0, 0, 1);
            dueMade(w, 0, 5, half(w), 0, 0, w - 1);
            dueMade(w, 0, 5, -1, 4, 0, greatest(w));
        }
        dueMade(8, 0, 5, 3, 4, 0, 171);
        dueMade(8, 0, 5, 6, 0, 0, 1, 4, 1, 171);
        dueMade(8, 0, 5, 192, 0, 0, 6, 4, 1, 171);
    }

    private void signedPowers() {
        says(TERMS, "SIGNED wish 0: if D is 1: KIND 0 of the number by 0 if d is 1, 7 of the number with 0 if it is -1.");
        for (int w : WIDTHS) {
            dueMade(w, 1, 0, 1, 0, 0, 0);
            dueMade(w, 1, 0, -1, 7, 0, 0);
        }
        says(TERMS, "If O is 1 otherwise: 1 of the number by N - 1; 0 of that by N - E; 5 of the number and that; 1 of that by E; "
            + "then, if d is below 0, 7 of that with 0.");
        for (int w : WIDTHS) {
            for (int e = 1; e < w - 1; e++) {
                dueMade(w, 1, 0, 1L << e, 1, 0, w - 1, 0, 1, w - e, 5, 0, 2, 1, 3, e);
                dueMade(w, 1, 0, -1L << e, 1, 0, w - 1, 0, 1, w - e, 5, 0, 2, 1, 3, e, 7, 4, 0);
            }
            dueMade(w, 1, 0, half(w), 1, 0, w - 1, 0, 1, 1, 5, 0, 2, 1, 3, w - 1, 7, 4, 0);
        }
    }

    private void signedQuotient() {
        says(TERMS, "Else let S be the least from 0 on for which M, as above, has M D - 2^(N + S) at most 2^(S + 1): "
            + "KIND 3 of the number with M's lowest N bits;");
        // MISS is just 2^(S + 1)
        dueMade(8, 1, 0, 3, 3, 0, 86, 1, 0, 7, 6, 1, 2);
        dueMade(8, 1, 0, 12, 3, 0, 43, 1, 1, 1, 1, 0, 7, 6, 2, 3);
        dueMade(8, 1, 0, 86, 3, 0, 3, 1, 0, 7, 6, 1, 2);
        // one S less has a MISS of 2^(S + 1) + 1
        dueMade(16, 1, 0, 19, 3, 0, 55189, 5, 1, 0, 1, 2, 4, 1, 0, 15, 6, 3, 4);
        says(TERMS, "then, if M is at least 2^(N - 1), 5 of that and the number;");
        dueMade(8, 1, 0, 65, 3, 0, 127, 1, 1, 5, 1, 0, 7, 6, 2, 3);
        dueMade(8, 1, 0, 63, 3, 0, 131, 5, 1, 0, 1, 2, 5, 1, 0, 7, 6, 3, 4);
        dueMade(16, 1, 0, 16385, 3, 0, 32767, 1, 1, 13, 1, 0, 15, 6, 2, 3);
        dueMade(16, 1, 0, 16383, 3, 0, 32771, 5, 1, 0, 1, 2, 13, 1, 0, 15, 6, 3, 4);
        dueMade(64, 1, 0, 7, 3, 0, 5270498306774157605L, 1, 1, 1, 1, 0, 63, 6, 2, 3);
        dueMade(32, 1, 0, 7, 3, 0, 2454267027L, 5, 1, 0, 1, 2, 2, 1, 0, 31, 6, 3, 4);
        says(TERMS, "then, if S is above 0, 1 of that by S; then g: 1 of the number by N - 1; 6 of what was there ahead of g, "
            + "and g; then, if d is below 0, 7 of that with 0.");
        dueMade(8, 1, 0, 6, 3, 0, 43, 1, 0, 7, 6, 1, 2);
        dueMade(8, 1, 0, -6, 3, 0, 43, 1, 0, 7, 6, 1, 2, 7, 3, 0);
        dueMade(8, 1, 0, -12, 3, 0, 43, 1, 1, 1, 1, 0, 7, 6, 2, 3, 7, 4, 0);
        dueMade(8, 1, 0, -63, 3, 0, 131, 5, 1, 0, 1, 2, 5, 1, 0, 7, 6, 3, 4, 7, 5, 0);
        dueMade(8, 1, 0, 127, 3, 0, 65, 1, 1, 5, 1, 0, 7, 6, 2, 3);
        dueMade(8, 1, 0, -127, 3, 0, 65, 1, 1, 5, 1, 0, 7, 6, 2, 3, 7, 4, 0);
    }

    private void signedDownwards() {
        says(TERMS, "SIGNED wish 1: g: KIND 1 of the number by N - 1; 8 of the number and g; Q of that; 8 of that and g.");
        for (int w : WIDTHS) {
            dueMade(w, 1, 1, 1, 1, 0, w - 1, 8, 0, 1, 0, 2, 0, 8, 3, 1);
            dueMade(w, 1, 1, 2, 1, 0, w - 1, 8, 0, 1, 0, 2, 1, 8, 3, 1);
        }
        dueMade(8, 1, 1, 3, 1, 0, 7, 8, 0, 1, 2, 2, 171, 0, 3, 1, 8, 4, 1);
        dueMade(8, 1, 1, 127, 1, 0, 7, 8, 0, 1, 2, 2, 3, 6, 2, 3, 0, 4, 1, 5, 5, 3, 0, 6, 6, 8, 7, 1);
    }

    private void signedRests() {
        says(TERMS, "2: as 0, then 4 of that with d, then 6 of the number and that.");
        for (int w : WIDTHS) {
            dueMade(w, 1, 2, 1, 0, 0, 0, 4, 1, 1, 6, 0, 2);
            dueMade(w, 1, 2, -1, 7, 0, 0, 4, 1, greatest(w), 6, 0, 2);
            dueMade(w, 1, 2, half(w), 1, 0, w - 1, 0, 1, 1, 5, 0, 2, 1, 3, w - 1, 7, 4, 0, 4, 5, half(w), 6, 0, 6);
        }
        dueMade(8, 1, 2, -3, 3, 0, 86, 1, 0, 7, 6, 1, 2, 7, 3, 0, 4, 4, 253, 6, 0, 5);
        says(TERMS, "3: as 1, then likewise.");
        for (int w : WIDTHS) dueMade(w, 1, 3, 1, 1, 0, w - 1, 8, 0, 1, 0, 2, 0, 8, 3, 1, 4, 4, 1, 6, 0, 5);
        dueMade(8, 1, 3, 7, 1, 0, 7, 8, 0, 1, 2, 2, 37, 6, 2, 3, 0, 4, 1, 5, 5, 3, 0, 6, 2, 8, 7, 1, 4, 8, 7, 6, 0, 9);
        says(TERMS, "4: g: 1 of the number by N - 1; 8 of the number and g; 6 of that and g; then PLAIN wish 4 of that, by D.");
        for (int w : WIDTHS) {
            dueMade(w, 1, 4, 1, 1, 0, w - 1, 8, 0, 1, 6, 2, 1, 4, 3, 1, 11, 4, greatest(w));
            dueMade(w, 1, 4, -1, 1, 0, w - 1, 8, 0, 1, 6, 2, 1, 4, 3, 1, 11, 4, greatest(w));
            dueMade(w, 1, 4, half(w), 1, 0, w - 1, 8, 0, 1, 6, 2, 1, 4, 3, 1, 10, 4, w - 1, 11, 5, 1);
        }
        dueMade(8, 1, 4, -3, 1, 0, 7, 8, 0, 1, 6, 2, 1, 4, 3, 171, 11, 4, 85);
        dueMade(8, 1, 4, 6, 1, 0, 7, 8, 0, 1, 6, 2, 1, 4, 3, 171, 10, 4, 1, 11, 5, 42);
    }

    private void signedExact() {
        says(TERMS, "5: if E is above 0, or d is 1: KIND 1 of the number by E; then, if d / 2^E is not 1, 4 of that (of the "
            + "number, if E is 0) with J, J d / 2^E being 1 by 2^N.");
        for (int w : WIDTHS) {
            dueMade(w, 1, 5, 1, 1, 0, 0);
            dueMade(w, 1, 5, 2, 1, 0, 1);
            dueMade(w, 1, 5, half(w) >>> 1, 1, 0, w - 2);
            dueMade(w, 1, 5, -1, 4, 0, greatest(w));
            dueMade(w, 1, 5, -2, 1, 0, 1, 4, 1, greatest(w));
            dueMade(w, 1, 5, half(w), 1, 0, w - 1, 4, 1, greatest(w));
        }
        dueMade(8, 1, 5, 3, 4, 0, 171);
        dueMade(8, 1, 5, -3, 4, 0, 85);
        dueMade(8, 1, 5, -12, 1, 0, 2, 4, 1, 85);
    }

    /** The lines give right forms of at most 12 steps, for every asking of width 8 and the edges of 16. */
    private void everyFormIsRight() {
        says(4, "A new FORM, which MAKE writes for an asking: its number.");
        for (int asking = 0; asking < 12; asking++) {
            for (int d = 1; d < 256; d++) dueRight(8, asking / 6, asking % 6, d);
            for (int d : new int[] {1, 2, 3, 7, 0x7FFE, 0x7FFF, 0x8000, 0x8001, 0xFFFE, 0xFFFF}) {
                dueRight(16, asking / 6, asking % 6, d);
            }
        }
    }

    private void dueRight(int w, int signed, int wish, int d) {
        DivideSmith s = withForms(1, 8);
        boolean refused = signed == 1 && (wish == 1 || wish == 3) && d >= half(w);
        String call = "make(" + w + ", " + signed + ", " + wish + ", " + d + ")";
        due(call, s.make(w, signed, wish, d), refused ? BAD : 1);
        if (refused) return;
        due("width of " + call, s.width(1), w);
        due("fails of " + call, s.fails(1, signed, wish, d), NONE);
    }
}
