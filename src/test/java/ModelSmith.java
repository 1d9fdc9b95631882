import java.math.BigInteger;
import java.util.ArrayList;
import java.util.List;

/**
 * The document once more, in another way: whole numbers without a bound, states copied instead of acts
 * taken back, and a LEAST that leaves no form out. Slow and plain, to be held against DivideSmith.
 */
final class ModelSmith {
    static final BigInteger ONE = BigInteger.ONE;
    static final BigInteger ZERO = BigInteger.ZERO;

    static final class Step {
        final int kind;
        final int x;
        final BigInteger y;

        Step(int kind, int x, BigInteger y) {
            this.kind = kind;
            this.x = x;
            this.y = y;
        }
    }

    static final class Form {
        final int id;
        final int width;
        final List<Step> steps = new ArrayList<>();

        Form(int id, int width) {
            this.id = id;
            this.width = width;
        }
    }

    /** An act: how to take it back, and the form it was done on, if any. */
    static final class Act {
        final Runnable back;
        final Form on;

        Act(Runnable back, Form on) {
            this.back = back;
            this.on = on;
        }
    }

    private final List<Form> forms = new ArrayList<>();
    private final int[] prices = {1, 1, 4, 4, 3, 1, 1, 1, 1, 1, 1, 1, 1};
    private final long[] told = new long[4];
    private final Object[] hooks = new Object[8];
    private final List<Act> acts = new ArrayList<>();
    private int looked;

    // ---- numbers

    static BigInteger two(int power) {
        return ONE.shiftLeft(power);
    }

    static BigInteger plainOf(int n, BigInteger v) {
        return v.mod(two(n));
    }

    static BigInteger plainOf(int n, long v) {
        return plainOf(n, BigInteger.valueOf(v));
    }

    static BigInteger signedOf(int n, BigInteger v) {
        BigInteger p = plainOf(n, v);
        return p.testBit(n - 1) ? p.subtract(two(n)) : p;
    }

    static BigInteger floorDiv(BigInteger a, BigInteger b) {
        BigInteger[] qr = a.divideAndRemainder(b);
        return qr[1].signum() != 0 && qr[1].signum() != b.signum() ? qr[0].subtract(ONE) : qr[0];
    }

    static boolean takesOperand(int kind) {
        return kind == 5 || kind == 6 || kind == 8 || kind == 12;
    }

    static boolean takesCount(int kind) {
        return kind == 0 || kind == 1 || kind == 10;
    }

    static BigInteger apply(int n, int kind, BigInteger x, BigInteger y) {
        BigInteger r;
        switch (kind) {
            case 0: r = floorDiv(x, two(y.intValueExact())); break;
            case 1: r = floorDiv(signedOf(n, x), two(y.intValueExact())); break;
            case 2: r = floorDiv(x.multiply(y), two(n)); break;
            case 3: r = floorDiv(signedOf(n, x).multiply(signedOf(n, y)), two(n)); break;
            case 4: r = x.multiply(y); break;
            case 5: r = x.add(y); break;
            case 6: r = x.subtract(y); break;
            case 7: r = y.subtract(x); break;
            case 8: r = x.xor(y); break;
            case 9: r = x.and(y); break;
            case 10: {
                int c = y.intValueExact();
                BigInteger low = x.mod(two(c));
                r = x.shiftRight(c).add(low.multiply(two(n - c)));
                break;
            }
            case 11: r = x.compareTo(y) <= 0 ? ONE : ZERO; break;
            default: r = x.testBit(n - 1) ? y : ZERO; break;
        }
        return plainOf(n, r);
    }

    static List<BigInteger> work(Form f, BigInteger number) {
        List<BigInteger> made = new ArrayList<>();
        made.add(plainOf(f.width, number));
        for (Step s : f.steps) {
            BigInteger y = takesOperand(s.kind) ? made.get(s.y.intValueExact()) : s.y;
            made.add(apply(f.width, s.kind, made.get(s.x), y));
        }
        return made;
    }

    // ---- askings

    static boolean isWidth(int w) {
        return w == 8 || w == 16 || w == 32 || w == 64;
    }

    static boolean isAsking(int w, int signed, int wish, long d) {
        if (!isWidth(w) || (signed != 0 && signed != 1) || wish < 0 || wish > 5) return false;
        BigInteger v = divisor(w, signed, d);
        if (v.signum() == 0) return false;
        return !(signed == 1 && (wish == 1 || wish == 3) && v.signum() <= 0);
    }

    static BigInteger divisor(int w, int signed, long d) {
        return signed == 1 ? signedOf(w, BigInteger.valueOf(d)) : plainOf(w, d);
    }

    static boolean asksOf(int w, int signed, int wish, long d, BigInteger n) {
        if (wish != 5) return true;
        BigInteger v = signed == 1 ? signedOf(w, n) : plainOf(w, n);
        return v.remainder(divisor(w, signed, d)).signum() == 0;
    }

    static BigInteger answer(int w, int signed, int wish, long d, BigInteger n) {
        BigInteger v = signed == 1 ? signedOf(w, n) : plainOf(w, n);
        BigInteger dd = divisor(w, signed, d);
        BigInteger r;
        switch (wish) {
            case 0: case 5: r = v.divide(dd); break;
            case 1: r = floorDiv(v, dd); break;
            case 2: r = v.remainder(dd); break;
            case 3: r = v.subtract(dd.multiply(floorDiv(v, dd))); break;
            default: r = v.remainder(dd).signum() == 0 ? ONE : ZERO; break;
        }
        return plainOf(w, r);
    }

    // ---- MAKE

    /** S, M, MISS for a slack: MISS at most 2^(S + slack). */
    static BigInteger[] magic(int w, BigInteger d, int slack) {
        for (int s = 0; ; s++) {
            BigInteger p = two(w + s);
            BigInteger m = p.add(d).subtract(ONE).divide(d);
            BigInteger miss = m.multiply(d).subtract(p);
            if (miss.compareTo(two(s + slack)) <= 0) return new BigInteger[] {BigInteger.valueOf(s), m, miss};
        }
    }

    private static int put(Form f, int kind, int x, BigInteger y) {
        f.steps.add(new Step(kind, x, plainOf(f.width, y)));
        return f.steps.size();
    }

    private static int put(Form f, int kind, int x, long y) {
        return put(f, kind, x, BigInteger.valueOf(y));
    }

    private static int q(Form f, int z, BigInteger d) {
        int e = d.getLowestSetBit();
        if (d.shiftRight(e).equals(ONE)) return put(f, 0, z, e);
        BigInteger[] sm = magic(f.width, d, 0);
        int s = sm[0].intValueExact();
        if (sm[1].compareTo(two(f.width)) < 0) {
            int r = put(f, 2, z, sm[1]);
            if (s > 0) r = put(f, 0, r, s);
            return r;
        }
        int h = put(f, 2, z, sm[1].subtract(two(f.width)));
        int r = put(f, 6, z, h);
        r = put(f, 0, r, 1);
        r = put(f, 5, r, h);
        if (s > 1) r = put(f, 0, r, s - 1);
        return r;
    }

    private static int plainFour(Form f, int z, BigInteger d) {
        int e = d.getLowestSetBit();
        int r = put(f, 4, z, d.shiftRight(e).modInverse(two(f.width)));
        if (e > 0) r = put(f, 10, r, e);
        return put(f, 11, r, two(f.width).subtract(ONE).divide(d));
    }

    private static int signedZero(Form f, BigInteger d) {
        int w = f.width;
        BigInteger size = d.abs();
        int e = size.getLowestSetBit();
        int r;
        if (size.equals(ONE)) return d.signum() > 0 ? put(f, 0, 0, 0) : put(f, 7, 0, 0);
        if (size.shiftRight(e).equals(ONE)) {
            r = put(f, 1, 0, w - 1);
            r = put(f, 0, r, w - e);
            r = put(f, 5, 0, r);
            r = put(f, 1, r, e);
        } else {
            BigInteger[] sm = magic(w, size, 1);
            int s = sm[0].intValueExact();
            r = put(f, 3, 0, sm[1]);
            if (sm[1].compareTo(two(w - 1)) >= 0) r = put(f, 5, r, 0);
            if (s > 0) r = put(f, 1, r, s);
            int g = put(f, 1, 0, w - 1);
            r = put(f, 6, r, g);
        }
        if (d.signum() < 0) r = put(f, 7, r, 0);
        return r;
    }

    private static int signedOne(Form f, BigInteger d) {
        int g = put(f, 1, 0, f.width - 1);
        int r = put(f, 8, 0, g);
        r = q(f, r, d);
        return put(f, 8, r, g);
    }

    static void write(Form f, int signed, int wish, BigInteger d) {
        int w = f.width;
        int e = d.abs().getLowestSetBit();
        BigInteger o = d.abs().shiftRight(e);
        if (signed == 0) {
            if (wish <= 1) {
                q(f, 0, d);
            } else if (wish <= 3) {
                if (o.equals(ONE)) put(f, 9, 0, d.subtract(ONE));
                else put(f, 6, 0, put(f, 4, q(f, 0, d), d));
            } else if (wish == 4) {
                plainFour(f, 0, d);
            } else {
                int r = 0;
                if (e > 0 || o.equals(ONE)) r = put(f, 0, 0, e);
                if (!o.equals(ONE)) put(f, 4, r, o.modInverse(two(w)));
            }
            return;
        }
        switch (wish) {
            case 0: signedZero(f, d); break;
            case 1: signedOne(f, d); break;
            case 2: put(f, 6, 0, put(f, 4, signedZero(f, d), d)); break;
            case 3: put(f, 6, 0, put(f, 4, signedOne(f, d), d)); break;
            case 4: {
                int g = put(f, 1, 0, w - 1);
                int r = put(f, 8, 0, g);
                r = put(f, 6, r, g);
                plainFour(f, r, d.abs());
                break;
            }
            default: {
                int r = 0;
                BigInteger part = d.divide(two(e));
                if (e > 0 || d.equals(ONE)) r = put(f, 1, 0, e);
                if (!part.equals(ONE)) put(f, 4, r, part.modInverse(two(w)));
                break;
            }
        }
    }

    // ---- the calls

    private Form at(int f) {
        return f >= 0 && f < forms.size() ? forms.get(f) : null;
    }

    private void did(Form on, Runnable back) {
        acts.add(new Act(back, on));
        if (acts.size() > 50) acts.remove(0);
    }

    private int add(Form f) {
        forms.add(f);
        did(f, () -> forms.remove(f));
        return f.id;
    }

    int form(int w) {
        if (!isWidth(w)) return -1;
        if (forms.size() == 60) return -2;
        return add(new Form(forms.size(), w));
    }

    int step(int f, int kind, int x, long y) {
        Form g = at(f);
        if (g == null || kind < 0 || kind > 12 || x < 0 || x > g.steps.size()) return -1;
        if (takesOperand(kind) && (y < 0 || y > g.steps.size())) return -1;
        if (takesCount(kind) && (y < 0 || y > g.width - 1)) return -1;
        if (g.steps.size() == 12) return -2;
        Step s = new Step(kind, x, plainOf(g.width, y));
        g.steps.add(s);
        did(g, () -> g.steps.remove(s));
        return g.steps.size() - 1;
    }

    int make(int w, int signed, int wish, long d) {
        if (!isAsking(w, signed, wish, d)) return -1;
        if (forms.size() == 60) return -2;
        Form f = new Form(forms.size(), w);
        write(f, signed, wish, divisor(w, signed, d));
        return add(f);
    }

    int drop() {
        if (forms.isEmpty()) return -1;
        Form gone = forms.remove(forms.size() - 1);
        acts.removeIf(a -> a.on == gone);
        return forms.size();
    }

    int steps(int f) {
        return at(f) == null ? -1 : at(f).steps.size();
    }

    long told(int f, int k, int what) {
        Form g = at(f);
        if (g == null || k < 0 || k >= g.steps.size() || what < 0 || what > 2) return -1;
        Step s = g.steps.get(k);
        return what == 0 ? s.kind : what == 1 ? s.x : s.y.longValue();
    }

    int width(int f) {
        return at(f) == null ? -1 : at(f).width;
    }

    int cost(int f) {
        if (at(f) == null) return -1;
        return at(f).steps.stream().mapToInt(s -> prices[s.kind]).sum();
    }

    int price(int kind, int c) {
        if (kind < 0 || kind > 12 || c < 1 || c > 50) return -1;
        int old = prices[kind];
        prices[kind] = c;
        did(null, () -> prices[kind] = old);
        return old;
    }

    long run(int f, long n) {
        Form g = at(f);
        if (g == null) return 0;
        return work(g, BigInteger.valueOf(n)).get(g.steps.size()).longValue();
    }

    long end(int f, long n, int k) {
        Form g = at(f);
        if (g == null || k < 0 || k >= g.steps.size()) return 0;
        return work(g, BigInteger.valueOf(n)).get(k + 1).longValue();
    }

    static int failsOf(Form g, int signed, int wish, long d) {
        for (int n = 0; n < 1 << g.width; n++) {
            BigInteger v = BigInteger.valueOf(n);
            if (!asksOf(g.width, signed, wish, d, v)) continue;
            BigInteger got = work(g, v).get(g.steps.size());
            if (!got.equals(answer(g.width, signed, wish, d, v))) return n;
        }
        return -3;
    }

    int fails(int f, int signed, int wish, long d) {
        Form g = at(f);
        if (g == null || g.width > 16 || !isAsking(g.width, signed, wish, d)) return -1;
        return failsOf(g, signed, wish, d);
    }

    long plain(int w, int signed, int wish, long d, long n) {
        if (!isAsking(w, signed, wish, d)) return 0;
        return answer(w, signed, wish, d, BigInteger.valueOf(n)).longValue();
    }

    long proof(int w, long d, int what) {
        if (!isWidth(w) || what < 0 || what > 3) return -1;
        BigInteger v = plainOf(w, d);
        if (v.signum() == 0) return -1;
        if (v.bitCount() == 1) return 0;
        BigInteger[] sm = magic(w, v, 0);
        switch (what) {
            case 0: return sm[0].longValue();
            case 1: return plainOf(w, sm[1]).longValue();
            case 2: return sm[1].compareTo(two(w)) >= 0 ? 1 : 0;
            default: return sm[2].longValue();
        }
    }

    int check(int w, long d, int s, long m, int over) {
        if (!isWidth(w) || s < 0 || s > w || over < 0 || over > 1) return -1;
        BigInteger v = plainOf(w, d);
        if (v.signum() == 0) return -1;
        BigInteger mm = plainOf(w, m).add(over == 1 ? two(w) : ZERO);
        BigInteger miss = mm.multiply(v).subtract(two(w + s));
        return miss.signum() >= 0 && miss.compareTo(two(s)) <= 0 ? 1 : 0;
    }

    long inverse(int w, long d) {
        if (!isWidth(w) || (d & 1) == 0) return 0;
        return plainOf(w, d).modInverse(two(w)).longValue();
    }

    long tell(int place, long v) {
        if (place < 0 || place > 3) return 0;
        long old = told[place];
        told[place] = v;
        did(null, () -> told[place] = old);
        return old;
    }

    int least(int signed, int wish, long d, int most) {
        if (most < 1 || most > 3 || !isAsking(8, signed, wish, d)) return -1;
        if (forms.size() == 60 || looked == 12) return -2;
        looked++;
        long[][] found = new BruteLeast(signed, wish, d, told, prices).find(most);
        if (found == null) return -3;
        Form f = new Form(forms.size(), 8);
        for (long[] s : found) put(f, (int) s[0], (int) s[1], s[2]);
        return add(f);
    }

    int count(int what) {
        return what == 0 ? forms.size() : what == 1 ? acts.size() : what == 2 ? looked : -1;
    }

    int undo() {
        if (acts.isEmpty()) return -1;
        acts.remove(acts.size() - 1).back.run();
        return acts.size();
    }

    private static int kindOf(Object o) {
        if (o == null) return 0;
        if (o instanceof Step) return 1;
        if (o instanceof int[]) return 2;
        if (o instanceof long[]) return 3;
        return o instanceof byte[] ? 4 : 5;
    }

    int hook(int h, int kind, int f, int k) {
        if (h < 0 || h > 7 || kind < 0 || kind > 5) return -1;
        Object next = null;
        if (kind > 0) {
            Form g = at(f);
            if (g == null || k < 0 || k > g.steps.size() || (kind == 1 && k == g.steps.size())) return -1;
            List<BigInteger> made = work(g, BigInteger.valueOf(f));
            int[] is = new int[k];
            long[] ls = new long[k];
            byte[] bs = new byte[k];
            short[] ss = new short[k];
            for (int i = 0; i < k; i++) {
                BigInteger v = made.get(i + 1);
                is[i] = v.intValue();
                ls[i] = v.longValue();
                bs[i] = v.byteValue();
                ss[i] = v.shortValue();
            }
            next = kind == 1 ? g.steps.get(k) : kind == 2 ? is : kind == 3 ? ls : kind == 4 ? bs : (Object) ss;
        }
        Object old = hooks[h];
        hooks[h] = next;
        did(null, () -> hooks[h] = old);
        return kindOf(old);
    }

    int held(int h) {
        return h < 0 || h > 7 ? -1 : kindOf(hooks[h]);
    }

    /** Here the host itself refuses, as the document's constants tell it. */
    int use(int h, int how, int x, int y) {
        if (h < 0 || h > 7 || how < 0 || how > 10) return -1;
        if (how == 9 && x > 100) return -1;
        Object o = hooks[h];
        if (how == 10) return o == null ? -15 : -11;
        if (o == null) return -12;
        try {
            return useHeld(o, how, x, y);
        } catch (ClassCastException e) {
            return -11;
        } catch (NegativeArraySizeException e) {
            return -14;
        } catch (IndexOutOfBoundsException e) {
            return -13;
        } catch (ArithmeticException e) {
            return -16;
        }
    }

    private int useHeld(Object o, int how, int x, int y) {
        switch (how) {
            case 0: return ((Step) o).kind;
            case 1: {
                Step s = (Step) o;
                if (s.kind < 2 || s.kind > 4) return -11;
                return s.y.intValue();
            }
            case 2: return ((int[]) o)[x];
            case 3: return (int) ((long[]) o)[x];
            case 4: return ((byte[]) o)[x];
            case 5: return ((short[]) o)[x];
            case 6: {
                int[] row = (int[]) o;
                int old = row[x];
                row[x] = y;
                did(null, () -> row[x] = old);
                return old;
            }
            case 7: return ((int[]) o)[x] / ((int[]) o)[y];
            case 8: return (int) (((long[]) o)[x] % ((long[]) o)[y]);
            default: {
                int[] row = (int[]) o;
                System.arraycopy(row, 0, new int[x], 0, y);
                return y;
            }
        }
    }
}
