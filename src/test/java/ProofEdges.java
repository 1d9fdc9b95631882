import java.math.BigInteger;

/** Promises 15 to 17: proofs and inverses. */
final class ProofEdges extends Edges {
    ProofEdges(Sentences sentences) {
        super(sentences);
    }

    @Override
    void all() {
        proof();
        proofRefused();
        checkOfWidth8();
        checkAtEdges();
        checkRefused();
        inverse();
    }

    private void dueProof(int w, long d, long s, long m, long over, long miss) {
        DivideSmith smith = new DivideSmith();
        String call = "proof(" + w + ", " + d + ", ";
        due(call + "0)", smith.proof(w, d, 0), s);
        due(call + "1)", smith.proof(w, d, 1), m);
        due(call + "2)", smith.proof(w, d, 2), over);
        due(call + "3)", smith.proof(w, d, 3), miss);
    }

    private void proof() {
        says(15, "Of the PLAIN quotient by d at a width: what = 0: S; 1: M's lowest N bits; 2: 1 if M is 2^N or more, else 0; "
            + "3: the MISS.");
        // S is 0, and MISS just 2^S
        dueProof(32, 641, 0, 6700417, 0, 1);
        dueProof(64, 67280421310721L, 0, 274177, 0, 1);
        dueProof(8, 3, 1, 171, 0, 1);
        // M just below 2^N, and above
        dueProof(8, 129, 7, 255, 0, 127);
        dueProof(8, 254, 8, 3, 1, 250);
        dueProof(16, 33233, 16, 63703, 1, 32391);
        dueProof(32, 4294967294L, 32, 3, 1, 4294967290L);
        dueProof(64, -2, 64, 3, 1, -6);
        // the greatest divisor
        dueProof(8, 255, 7, 129, 0, 127);
        dueProof(16, 65535, 15, 32769, 0, 32767);
        dueProof(32, -1, 31, 2147483649L, 0, Integer.MAX_VALUE);
        dueProof(64, -1, 63, Long.MIN_VALUE + 1, 0, Long.MAX_VALUE);
        // above the upper bit alone
        dueProof(64, Long.MIN_VALUE + 1, 63, -1, 0, Long.MAX_VALUE);
        dueProof(64, 7, 3, 2635249153387078803L, 1, 5);
        says(15, "0 if O is 1 (S, M there are none then).");
        for (int w : WIDTHS) {
            for (int e = 0; e < w; e++) dueProof(w, 1L << e, 0, 0, 0, 0);
        }
    }

    private void proofRefused() {
        says(15, "BAD (it may be -1, too): no such width, what; d is 0.");
        DivideSmith s = new DivideSmith();
        for (int w : NO_WIDTHS) due("width " + w, s.proof(w, 3, 0), BAD);
        for (int what : new int[] {LOWEST, -1, 4, GREATEST}) {
            due("what " + what, s.proof(8, 3, what), BAD);
            due("what " + what + ", O 1", s.proof(8, 4, what), BAD);
        }
        for (int w : WIDTHS) {
            for (int what = 0; what < 4; what++) {
                due("d 0", s.proof(w, 0, what), BAD);
                if (w < 64) due("d 2^N", s.proof(w, 1L << w, what), BAD);
                if (w < 64) due("d -2^N", s.proof(w, -1L << w, what), BAD);
            }
        }
    }

    /** M d - 2^(N + s) between 0 and 2^s, in so many words. */
    private static boolean holds(int w, BigInteger d, int s, BigInteger m) {
        BigInteger miss = m.multiply(d).subtract(BigInteger.ONE.shiftLeft(w + s));
        return miss.signum() >= 0 && miss.compareTo(BigInteger.ONE.shiftLeft(s)) <= 0;
    }

    private static boolean holdsOfWidth8(int d, int s, int m) {
        int miss = m * d - (256 << s);
        return miss >= 0 && miss <= 1 << s;
    }

    private void checkOfWidth8() {
        says(16, "1 if a told proof holds: s 0 .. N, M its lowest N bits and 2^N more if over is 1:");
        for (int d = 1; d < 256; d++) {
            for (int s = 0; s <= 8; s++) {
                DivideSmith smith = new DivideSmith();
                for (int m = 0; m < 512; m++) {
                    due("check", smith.check(8, d, s, m, m >> 8), holdsOfWidth8(d, s, m) ? 1 : 0);
                }
            }
        }
    }

    /** The least M whose product reaches 2^(N + s), the greatest that is at most 2^s above, and their neighbours. */
    private void checkAtEdges() {
        says(16, "M d - 2^(N + s) is 0 or more, and at most 2^s; else 0.");
        for (int w : WIDTHS) {
            long[] divisors = {1, 2, 3, 7, 641, half(w) - 1, half(w), half(w) + 1, half(w) + 3, greatest(w) - 1, greatest(w),
                half(w) + (half(w) >>> 3), (1L << (w / 2)) + 1, (1L << (w / 2)) - 1, (1L << (w / 2))};
            for (long divisor : divisors) {
                BigInteger d = new BigInteger(Long.toUnsignedString(divisor & greatest(w)));
                DivideSmith smith = new DivideSmith();
                for (int s = 0; s <= w; s += s > 2 && s < w - 3 ? 5 : 1) {
                    BigInteger low = BigInteger.ONE.shiftLeft(w + s);
                    BigInteger high = low.add(BigInteger.ONE.shiftLeft(s));
                    for (int off = -1; off <= 1; off++) {
                        dueCheck(smith, w, d, s, low.divide(d).add(BigInteger.valueOf(off)));
                        dueCheck(smith, w, d, s, high.divide(d).add(BigInteger.valueOf(off)));
                    }
                }
            }
        }
        due("just 2^s above, s = N = 64", new DivideSmith().check(64, -8799998487509860352L, 64, -1619170619263811584L, 1), 1);
        due("1 more", new DivideSmith().check(64, -8799998487509860352L, 64, -1619170619263811583L, 1), 0);
        due("just 2^s above, s = N = 32", new DivideSmith().check(32, 3430613504L, 32, 1082130432, 1), 1);
        due("1 more", new DivideSmith().check(32, 3430613504L, 32, 1082130433, 1), 0);
        due("upper bits of m are let go", new DivideSmith().check(8, 7, 3, 37 + 256, 0), 0);
        due("upper bits of m are let go", new DivideSmith().check(8, 7, 3, 37 - 256, 1), 1);
    }

    private void dueCheck(DivideSmith smith, int w, BigInteger d, int s, BigInteger m) {
        if (m.signum() < 0 || m.bitLength() > w + 1) return;
        int over = m.testBit(w) ? 1 : 0;
        due("check(" + w + ", " + d + ", " + s + ", " + m + " in all)",
            smith.check(w, d.longValue(), s, m.clearBit(w).longValue(), over), holds(w, d, s, m) ? 1 : 0);
    }

    private void checkRefused() {
        says(16, "BAD: no such width, s, over; d is 0.");
        DivideSmith s = new DivideSmith();
        for (int w : NO_WIDTHS) due("width " + w, s.check(w, 1, 0, 0, 1), BAD);
        for (int over : new int[] {LOWEST, -1, 2, GREATEST}) due("over " + over, s.check(8, 1, 0, 0, over), BAD);
        for (int w : WIDTHS) {
            for (int wrong : new int[] {LOWEST, -1, w + 1, GREATEST}) due("s " + wrong, s.check(w, 1, wrong, 0, 1), BAD);
            due("s 0", s.check(w, 1, 0, 0, 1), 1);
            due("s N", s.check(w, -1, w, 2, 1), 1);
            due("d 0", s.check(w, 0, 0, 0, 1), BAD);
            if (w < 64) due("d 2^N", s.check(w, 1L << w, 0, 0, 1), BAD);
        }
    }

    private void inverse() {
        says(17, "For odd d: I, I d being 1 by 2^N;");
        for (int w : WIDTHS) {
            DivideSmith s = new DivideSmith();
            due("of 1", s.inverse(w, 1), 1);
            due("of 2^N - 1", s.inverse(w, greatest(w)), greatest(w));
            due("of -1", s.inverse(w, -1), greatest(w));
            due("of the upper bit and 1", s.inverse(w, half(w) + 1), half(w) + 1);
            for (long d = -121; d < 121; d += 2) {
                long i = s.inverse(w, d);
                due("times " + d, (i * d) & greatest(w), 1);
                due("upper bits", i & ~greatest(w), 0);
            }
        }
        for (int d = 1; d < 256; d += 2) due("of " + d, new DivideSmith().inverse(8, d) * d % 256, 1);
        says(17, "0 if d is even, or there is no such width.");
        for (int w : WIDTHS) {
            for (long d : new long[] {0, 2, -2, 6, half(w), Long.MIN_VALUE, 1L << 32}) {
                due("inverse(" + w + ", " + d + ")", new DivideSmith().inverse(w, d), 0);
            }
        }
        for (int w : NO_WIDTHS) due("width " + w, new DivideSmith().inverse(w, 3), 0);
    }
}
