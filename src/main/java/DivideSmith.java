/** A smithy for divisions by fixed divisors; the promises are numbered in the project's document. */
public final class DivideSmith {
    public static final int BAD = -1, FULL = -2, NONE = -3;
    public static final int CAST = -11, NOTHING = -12, PLACE = -13, SIZE = -14, THROWN = -15, NOUGHT = -16;

    private static final int MOST_FORMS = 60;
    private static final int MOST_STEPS = 12;
    private static final int MOST_PRICE = 50;
    private static final int MOST_ACTS = 50;
    private static final int MOST_LOOKS = 12;
    private static final int MOST_LOOKED_STEPS = 3;
    private static final int MOST_NEW_ROW = 100;
    private static final int KIND_COUNT = 13;
    private static final int TOLD_COUNT = 4;
    private static final int HOOK_COUNT = 8;
    private static final int HOW_COUNT = 11;
    private static final int LAST_WISH = 5;

    private static final int[] FIRST_PRICES = {1, 1, 4, 4, 3, 1, 1, 1, 1, 1, 1, 1, 1};

    private static final int HOLDS_NOTHING = 0, HOLDS_STEP = 1, HOLDS_INTS = 2, HOLDS_LONGS = 3;
    private static final int HOLDS_BYTES = 4, HOLDS_SHORTS = 5;

    private static final int HOW_Y = 1, HOW_SET = 6, HOW_DIVIDE = 7, HOW_REST = 8, HOW_COPY = 9, HOW_THROW = 10;

    /** For each way of use but throwing: the kind of holding that it takes. */
    private static final int[] TAKEN_FOR = {
        HOLDS_STEP, HOLDS_STEP, HOLDS_INTS, HOLDS_LONGS, HOLDS_BYTES, HOLDS_SHORTS,
        HOLDS_INTS, HOLDS_INTS, HOLDS_LONGS, HOLDS_INTS
    };

    private static final int ACT_FORM = 0, ACT_STEP = 1, ACT_PRICE = 2, ACT_TELL = 3, ACT_HOOK = 4, ACT_CELL = 5;

    private final Form[] forms = new Form[MOST_FORMS];
    private int formCount;
    private final int[] prices = new int[KIND_COUNT];
    private final long[] toldNumbers = new long[TOLD_COUNT];
    private final Holding[] hooks = new Holding[HOOK_COUNT];
    private final Holding nothing = new Holding(HOLDS_NOTHING, 0, 0L, 0);
    private final History history = new History();
    private final Search search = new Search();
    private int lookCount;
    private final long[] made = new long[MOST_STEPS + 1];

    public DivideSmith() {
        System.arraycopy(FIRST_PRICES, 0, prices, 0, KIND_COUNT);
        for (int h = 0; h < HOOK_COUNT; h++) {
            hooks[h] = nothing;
        }
    }

    public int form(int width) {
        if (!Bits.isWidth(width)) {
            return BAD;
        }
        if (formCount >= MOST_FORMS) {
            return FULL;
        }
        openForm(width);
        return formCount - 1;
    }

    public int step(int f, int kind, int x, long y) {
        Form form = formAt(f);
        if (form == null || !isKind(kind) || x < 0 || x > form.stepCount || !fitsAsY(form, kind, y)) {
            return BAD;
        }
        if (form.stepCount >= MOST_STEPS) {
            return FULL;
        }
        form.add(kind, x, y & Bits.mask(form.width));
        history.add(new Act(ACT_STEP, f, 0, 0L, null));
        return form.stepCount - 1;
    }

    public int make(int width, int signed, int wish, long d) {
        if (!Asking.isAsking(width, signed, wish, d)) {
            return BAD;
        }
        if (formCount >= MOST_FORMS) {
            return FULL;
        }
        Writer writer = new Writer(openForm(width), new Asking(width, signed, wish, d));
        if (signed == 1) {
            writer.writeSigned();
        } else {
            writer.writePlain();
        }
        return formCount - 1;
    }

    public int drop() {
        if (formCount == 0) {
            return BAD;
        }
        formCount--;
        history.forgetForm(formCount);
        return formCount;
    }

    public int steps(int f) {
        Form form = formAt(f);
        return form == null ? BAD : form.stepCount;
    }

    public long told(int f, int k, int what) {
        Form form = formAt(f);
        if (form == null || !form.hasStep(k)) {
            return BAD;
        }
        switch (what) {
            case 0:
                return form.kinds[k];
            case 1:
                return form.xs[k];
            case 2:
                return form.ys[k];
            default:
                return BAD;
        }
    }

    public int width(int f) {
        Form form = formAt(f);
        return form == null ? BAD : form.width;
    }

    public int cost(int f) {
        Form form = formAt(f);
        if (form == null) {
            return BAD;
        }
        int sum = 0;
        for (int k = 0; k < form.stepCount; k++) {
            sum += prices[form.kinds[k]];
        }
        return sum;
    }

    public int price(int kind, int c) {
        if (!isKind(kind) || c < 1 || c > MOST_PRICE) {
            return BAD;
        }
        int old = prices[kind];
        prices[kind] = c;
        history.add(new Act(ACT_PRICE, kind, 0, old, null));
        return old;
    }

    public long run(int f, long n) {
        Form form = formAt(f);
        if (form == null) {
            return 0;
        }
        form.work(n, form.stepCount, made);
        return made[form.stepCount];
    }

    public long end(int f, long n, int k) {
        Form form = formAt(f);
        if (form == null || !form.hasStep(k)) {
            return 0;
        }
        form.work(n, k + 1, made);
        return made[k + 1];
    }

    public int fails(int f, int signed, int wish, long d) {
        Form form = formAt(f);
        if (form == null || form.width > 16 || !Asking.isAsking(form.width, signed, wish, d)) {
            return BAD;
        }
        Asking asking = new Asking(form.width, signed, wish, d);
        int numbers = 1 << form.width;
        for (int n = 0; n < numbers; n++) {
            form.work(n, form.stepCount, made);
            if (made[form.stepCount] != asking.answer(n) && asking.asksOf(n)) {
                return n;
            }
        }
        return NONE;
    }

    public long plain(int width, int signed, int wish, long d, long n) {
        if (!Asking.isAsking(width, signed, wish, d)) {
            return 0;
        }
        return new Asking(width, signed, wish, d).answer(n);
    }

    public long proof(int width, long d, int what) {
        if (!Bits.isWidth(width) || what < 0 || what > 3) {
            return BAD;
        }
        long divisor = d & Bits.mask(width);
        if (divisor == 0) {
            return BAD;
        }
        if ((divisor & (divisor - 1)) == 0) {
            return 0;
        }
        Magic magic = new Magic(width, divisor, 0);
        switch (what) {
            case 0:
                return magic.shift;
            case 1:
                return magic.low;
            case 2:
                return magic.over ? 1 : 0;
            default:
                return magic.miss;
        }
    }

    public int check(int width, long d, int s, long m, int over) {
        if (!Bits.isWidth(width) || s < 0 || s > width || over < 0 || over > 1) {
            return BAD;
        }
        long mask = Bits.mask(width);
        long divisor = d & mask;
        if (divisor == 0) {
            return BAD;
        }
        long factor = m & mask;
        long low = (factor * divisor) & mask;
        long high = Bits.highPlain(width, factor, divisor);
        boolean carry = false;
        if (over == 1) {
            long sum = (high + divisor) & mask;
            carry = Bits.below(sum, high);
            high = sum;
        }
        return proofHolds(width, s, carry, high, low) ? 1 : 0;
    }

    public long inverse(int width, long d) {
        if (!Bits.isWidth(width) || (d & 1) == 0) {
            return 0;
        }
        return Bits.inverseOf(width, d);
    }

    public long tell(int place, long v) {
        if (place < 0 || place >= TOLD_COUNT) {
            return 0;
        }
        long old = toldNumbers[place];
        toldNumbers[place] = v;
        history.add(new Act(ACT_TELL, place, 0, old, null));
        return old;
    }

    public int least(int signed, int wish, long d, int most) {
        if (most < 1 || most > MOST_LOOKED_STEPS || !Asking.isAsking(8, signed, wish, d)) {
            return BAD;
        }
        if (formCount >= MOST_FORMS || lookCount >= MOST_LOOKS) {
            return FULL;
        }
        lookCount++;
        search.prepare(new Asking(8, signed, wish, d), toldNumbers, prices);
        for (int goal = 1; goal <= most; goal++) {
            search.extend(goal, 0, 0, 0);
        }
        if (search.bestLength == 0) {
            return NONE;
        }
        search.writeBest(openForm(8));
        return formCount - 1;
    }

    public int count(int what) {
        switch (what) {
            case 0:
                return formCount;
            case 1:
                return history.size;
            case 2:
                return lookCount;
            default:
                return BAD;
        }
    }

    public int undo() {
        Act act = history.takeLatest();
        if (act == null) {
            return BAD;
        }
        takeBack(act);
        return history.size;
    }

    public int hook(int h, int kind, int f, int k) {
        if (h < 0 || h >= HOOK_COUNT || kind < HOLDS_NOTHING || kind > HOLDS_SHORTS) {
            return BAD;
        }
        Holding next = nothing;
        if (kind != HOLDS_NOTHING) {
            Form form = formAt(f);
            if (form == null || k < 0 || k > form.stepCount || (kind == HOLDS_STEP && k == form.stepCount)) {
                return BAD;
            }
            next = kind == HOLDS_STEP
                ? new Holding(HOLDS_STEP, form.kinds[k], form.ys[k], 0)
                : rowOf(kind, form, f, k);
        }
        Holding old = hooks[h];
        hooks[h] = next;
        history.add(new Act(ACT_HOOK, h, 0, 0L, old));
        return old.kind;
    }

    public int held(int h) {
        return h < 0 || h >= HOOK_COUNT ? BAD : hooks[h].kind;
    }

    public int use(int h, int how, int x, int y) {
        if (h < 0 || h >= HOOK_COUNT || how < 0 || how >= HOW_COUNT || (how == HOW_COPY && x > MOST_NEW_ROW)) {
            return BAD;
        }
        Holding holding = hooks[h];
        if (how == HOW_THROW) {
            return holding.kind == HOLDS_NOTHING ? THROWN : CAST;
        }
        if (holding.kind == HOLDS_NOTHING) {
            return NOTHING;
        }
        if (holding.kind != TAKEN_FOR[how] || (how == HOW_Y && !holding.multiplies())) {
            return CAST;
        }
        if (holding.kind == HOLDS_STEP) {
            return how == HOW_Y ? (int) holding.stepY : holding.stepKind;
        }
        if (how == HOW_COPY) {
            return copyAnswer(holding, x, y);
        }
        return holding.hasPlace(x) ? rowAnswer(h, how, x, y) : PLACE;
    }

    private static boolean isKind(int kind) {
        return kind >= 0 && kind < KIND_COUNT;
    }

    private static boolean fitsAsY(Form form, int kind, long y) {
        if (Kinds.takesOperand(kind)) {
            return y >= 0 && y <= form.stepCount;
        }
        return !Kinds.takesCount(kind) || (y >= 0 && y < form.width);
    }

    private Form formAt(int f) {
        return f < 0 || f >= formCount ? null : forms[f];
    }

    /** The caller has seen that there is room. A form's rows outlive it, for the next one of its number. */
    private Form openForm(int width) {
        Form form = forms[formCount];
        if (form == null) {
            form = new Form();
            forms[formCount] = form;
        }
        form.begin(width);
        history.add(new Act(ACT_FORM, formCount, 0, 0L, null));
        formCount++;
        return form;
    }

    /** The product is carry, high, low; it must be 2^(N + s) and at most 2^s more. */
    private static boolean proofHolds(int width, int s, boolean carry, long high, long low) {
        if (s < width) {
            return !carry && high == 1L << s && !Bits.below(1L << s, low);
        }
        return carry && (high == 0 || (high == 1 && low == 0));
    }

    /** Acts are taken back latest first, so a form or a step that goes is always the last one there is. */
    private void takeBack(Act act) {
        switch (act.kind) {
            case ACT_FORM:
                formCount = act.subject;
                break;
            case ACT_STEP:
                removeStep(formAt(act.subject));
                break;
            case ACT_PRICE:
                prices[act.subject] = (int) act.old;
                break;
            case ACT_TELL:
                toldNumbers[act.subject] = act.old;
                break;
            case ACT_HOOK:
                hooks[act.subject] = act.holding;
                break;
            default:
                restoreCell(act.holding, act.place, act.old);
                break;
        }
    }

    private static void removeStep(Form form) {
        if (form != null) {
            form.removeLast();
        }
    }

    private static void restoreCell(Holding row, int place, long old) {
        if (row != null && row.hasPlace(place)) {
            row.cells[place] = old;
        }
    }

    private Holding rowOf(int kind, Form form, int n, int size) {
        Holding row = new Holding(kind, 0, 0L, size);
        form.work(n, size, made);
        for (int k = 0; k < size; k++) {
            row.cells[k] = narrowed(kind, made[k + 1]);
        }
        return row;
    }

    private static long narrowed(int kind, long value) {
        switch (kind) {
            case HOLDS_INTS:
                return (int) value;
            case HOLDS_BYTES:
                return (byte) value;
            case HOLDS_SHORTS:
                return (short) value;
            default:
                return value;
        }
    }

    /** Nobody can see the new row after the call, so only the answer is made. */
    private static int copyAnswer(Holding row, int size, int howMany) {
        if (size < 0) {
            return SIZE;
        }
        return howMany < 0 || howMany > size || howMany > row.cells.length ? PLACE : howMany;
    }

    /** The caller has seen that hook h holds a row that has a place x. */
    private int rowAnswer(int h, int how, int x, int y) {
        Holding row = hooks[h];
        long value = row.cells[x];
        if (how == HOW_SET) {
            row.cells[x] = y;
            history.add(new Act(ACT_CELL, h, x, value, row));
            return (int) value;
        }
        if (how != HOW_DIVIDE && how != HOW_REST) {
            return (int) value;
        }
        if (!row.hasPlace(y)) {
            return PLACE;
        }
        long divisor = row.cells[y];
        if (divisor == 0) {
            return NOUGHT;
        }
        return (int) (how == HOW_DIVIDE ? value / divisor : value % divisor);
    }

    /** Numbers of a width, as longs whose bits above the width are 0. */
    private static final class Bits {
        static boolean isWidth(int width) {
            return width == 8 || width == 16 || width == 32 || width == 64;
        }

        static long mask(int width) {
            return -1L >>> (64 - width);
        }

        static long signedOf(int width, long n) {
            return (n << (64 - width)) >> (64 - width);
        }

        static boolean below(long a, long b) {
            return (a ^ Long.MIN_VALUE) < (b ^ Long.MIN_VALUE);
        }

        /** Of PLAIN numbers, 64 bits too; 0 by 0, which no caller asks. */
        static long quotient(long n, long d) {
            if (d == 0) {
                return 0;
            }
            if (d < 0) {
                return below(n, d) ? 0 : 1;
            }
            if (n >= 0) {
                return n / d;
            }
            // half of n is not below 0, and the quotient that it gives is at most 1 too small
            long guess = ((n >>> 1) / d) << 1;
            return below(n - guess * d, d) ? guess : guess + 1;
        }

        static long highPlain(int width, long a, long b) {
            return width == 64 ? highOf64(a, b) : (a * b) >>> width;
        }

        static long highSigned(int width, long a, long b) {
            if (width < 64) {
                return ((signedOf(width, a) * signedOf(width, b)) >> width) & mask(width);
            }
            return highOf64(a, b) - (a < 0 ? b : 0) - (b < 0 ? a : 0);
        }

        private static long highOf64(long a, long b) {
            long half = 0xFFFFFFFFL;
            long aLow = a & half;
            long aHigh = a >>> 32;
            long bLow = b & half;
            long bHigh = b >>> 32;
            long middle = aHigh * bLow + ((aLow * bLow) >>> 32);
            long other = aLow * bHigh + (middle & half);
            return aHigh * bHigh + (middle >>> 32) + (other >>> 32);
        }

        /** An odd number is its own inverse in 3 bits, and each round doubles the bits that are right. */
        static long inverseOf(int width, long odd) {
            long guess = odd;
            for (int bits = 3; bits < width; bits *= 2) {
                guess *= 2 - odd * guess;
            }
            return guess & mask(width);
        }
    }

    /** What the 13 KINDS of steps take and make. */
    private static final class Kinds {
        static boolean takesOperand(int kind) {
            return kind == 5 || kind == 6 || kind == 8 || kind == 12;
        }

        static boolean takesCount(int kind) {
            return kind == 0 || kind == 1 || kind == 10;
        }

        static long apply(int width, int kind, long x, long y) {
            switch (kind) {
                case 0:
                    return x >>> (int) y;
                case 1:
                    return (Bits.signedOf(width, x) >> (int) y) & Bits.mask(width);
                case 2:
                    return Bits.highPlain(width, x, y);
                case 3:
                    return Bits.highSigned(width, x, y);
                case 4:
                    return (x * y) & Bits.mask(width);
                case 5:
                    return (x + y) & Bits.mask(width);
                case 6:
                    return (x - y) & Bits.mask(width);
                case 7:
                    return (y - x) & Bits.mask(width);
                case 8:
                    return x ^ y;
                case 9:
                    return x & y;
                case 10:
                    return ((x >>> (int) y) | (x << (width - (int) y))) & Bits.mask(width);
                case 11:
                    return Bits.below(y, x) ? 0 : 1;
                case 12:
                    return (x >>> (width - 1)) == 0 ? 0 : y;
                default:
                    return 0;
            }
        }
    }

    /** A width and a row of steps; every operand of a step is below the step's own. */
    private static final class Form {
        int width;
        int stepCount;
        final int[] kinds = new int[MOST_STEPS];
        final int[] xs = new int[MOST_STEPS];
        final long[] ys = new long[MOST_STEPS];

        void begin(int newWidth) {
            width = newWidth;
            stepCount = 0;
        }

        boolean hasStep(int k) {
            return k >= 0 && k < stepCount;
        }

        /** Answers the operand that the new step makes. */
        int add(int kind, int x, long y) {
            if (stepCount < MOST_STEPS) {
                kinds[stepCount] = kind;
                xs[stepCount] = x;
                ys[stepCount] = y;
                stepCount++;
            }
            return stepCount;
        }

        void removeLast() {
            if (stepCount > 0) {
                stepCount--;
            }
        }

        /** Fills values with the operands 0 up to howMany. */
        void work(long n, int howMany, long[] values) {
            values[0] = n & Bits.mask(width);
            for (int k = 0; k < howMany; k++) {
                long y = Kinds.takesOperand(kinds[k]) ? values[(int) ys[k]] : ys[k];
                values[k + 1] = Kinds.apply(width, kinds[k], values[xs[k]], y);
            }
        }
    }

    /** What a plain division is asked for. */
    private static final class Asking {
        final int width;
        final boolean signed;
        final int wish;
        final long divisor;

        Asking(int width, int signed, int wish, long d) {
            this.width = width;
            this.signed = signed == 1;
            this.wish = wish;
            this.divisor = this.signed ? Bits.signedOf(width, d) : d & Bits.mask(width);
        }

        static boolean isAsking(int width, int signed, int wish, long d) {
            if (!Bits.isWidth(width) || signed < 0 || signed > 1 || wish < 0 || wish > LAST_WISH) {
                return false;
            }
            long divisor = Bits.signedOf(width, d);
            boolean downwards = wish == 1 || wish == 3;
            return divisor != 0 && (signed == 0 || !downwards || divisor > 0);
        }

        boolean asksOf(long n) {
            long number = numberOf(n);
            return wish != 5 || number == towardsZero(number) * divisor;
        }

        long answer(long n) {
            long number = numberOf(n);
            long quotient = towardsZero(number);
            long rest = number - quotient * divisor;
            if (signed && rest < 0 && (wish == 1 || wish == 3)) {
                quotient--;
                rest += divisor;
            }
            switch (wish) {
                case 2:
                case 3:
                    return rest & Bits.mask(width);
                case 4:
                    return rest == 0 ? 1 : 0;
                default:
                    return quotient & Bits.mask(width);
            }
        }

        private long numberOf(long n) {
            return signed ? Bits.signedOf(width, n) : n & Bits.mask(width);
        }

        private long towardsZero(long number) {
            if (divisor == 0) {
                return 0;
            }
            return signed ? number / divisor : Bits.quotient(number, divisor);
        }
    }

    /** The least S, with its M and its MISS, for a divisor that is no power of 2. */
    private static final class Magic {
        final int shift;
        final long low;
        final boolean over;
        final long miss;

        /** The MISS may be 2^(S + slack). */
        Magic(int width, long divisor, int slack) {
            long mask = Bits.mask(width);
            // the divisor does not divide 2^N, so 2^N has the quotient of 2^N - 1, and a rest 1 greater
            long quotient = Bits.quotient(mask, divisor);
            long rest = mask - quotient * divisor + 1;
            boolean beyond = false;
            int s = 0;
            while (s < width && isAbovePower(divisor - rest, s + slack)) {
                beyond = (quotient >>> (width - 1)) != 0;
                quotient = (quotient << 1) & mask;
                long gap = divisor - rest;
                if (Bits.below(rest, gap)) {
                    rest += rest;
                } else {
                    rest -= gap;
                    quotient |= 1;
                }
                s++;
            }
            shift = s;
            low = (quotient + 1) & mask;
            over = beyond || low == 0;
            miss = divisor - rest;
        }

        private static boolean isAbovePower(long n, int power) {
            return power < 64 && Bits.below(1L << power, n);
        }
    }

    /** Writes down the form that MAKE names for an asking. */
    private static final class Writer {
        private final Form target;
        private final Asking asking;
        private final int width;
        private final long size;
        private final int twos;
        private final long odd;

        Writer(Form target, Asking asking) {
            this.target = target;
            this.asking = asking;
            width = asking.width;
            long divisor = asking.divisor;
            size = (asking.signed && divisor < 0 ? -divisor : divisor) & Bits.mask(width);
            twos = Long.bitCount((size & -size) - 1);
            odd = size >>> twos;
        }

        void writePlain() {
            switch (asking.wish) {
                case 2:
                case 3:
                    if (odd == 1) {
                        target.add(9, 0, size - 1);
                    } else {
                        restAfter(plainQuotient(0));
                    }
                    break;
                case 4:
                    noRest(0);
                    break;
                case 5:
                    exact(0, odd == 1, Bits.inverseOf(width, odd));
                    break;
                default:
                    plainQuotient(0);
                    break;
            }
        }

        void writeSigned() {
            switch (asking.wish) {
                case 0:
                    signedQuotient();
                    break;
                case 1:
                    quotientDownwards();
                    break;
                case 2:
                    restAfter(signedQuotient());
                    break;
                case 3:
                    restAfter(quotientDownwards());
                    break;
                case 4:
                    noRest(sizeOfNumber());
                    break;
                default:
                    long part = asking.divisor >> twos;
                    exact(1, part == 1, Bits.inverseOf(width, part));
                    break;
            }
        }

        private int plainQuotient(int z) {
            if (odd == 1) {
                return target.add(0, z, twos);
            }
            Magic magic = new Magic(width, size, 0);
            int high = target.add(2, z, magic.low);
            if (!magic.over) {
                return magic.shift > 0 ? target.add(0, high, magic.shift) : high;
            }
            int left = target.add(6, z, high);
            int half = target.add(0, left, 1);
            int sum = target.add(5, half, high);
            return magic.shift > 1 ? target.add(0, sum, magic.shift - 1) : sum;
        }

        private int signedQuotient() {
            if (size == 1) {
                return target.add(asking.divisor == 1 ? 0 : 7, 0, 0);
            }
            int last = odd == 1 ? signedByShifting() : signedByMultiplying();
            return asking.divisor < 0 ? target.add(7, last, 0) : last;
        }

        private int signedByShifting() {
            int sign = target.add(1, 0, width - 1);
            int lift = target.add(0, sign, width - twos);
            int sum = target.add(5, 0, lift);
            return target.add(1, sum, twos);
        }

        private int signedByMultiplying() {
            Magic magic = new Magic(width, size, 1);
            int last = target.add(3, 0, magic.low);
            if (magic.over || (magic.low >>> (width - 1)) != 0) {
                last = target.add(5, last, 0);
            }
            if (magic.shift > 0) {
                last = target.add(1, last, magic.shift);
            }
            int sign = target.add(1, 0, width - 1);
            return target.add(6, last, sign);
        }

        private int quotientDownwards() {
            int sign = target.add(1, 0, width - 1);
            int flipped = target.add(8, 0, sign);
            return target.add(8, plainQuotient(flipped), sign);
        }

        private int sizeOfNumber() {
            int sign = target.add(1, 0, width - 1);
            int flipped = target.add(8, 0, sign);
            return target.add(6, flipped, sign);
        }

        private void restAfter(int quotient) {
            int product = target.add(4, quotient, asking.divisor & Bits.mask(width));
            target.add(6, 0, product);
        }

        private void noRest(int z) {
            int last = target.add(4, z, Bits.inverseOf(width, odd));
            if (twos > 0) {
                last = target.add(10, last, twos);
            }
            target.add(11, last, Bits.quotient(Bits.mask(width), size));
        }

        /** isOne: the divisor without its twos is 1, so that nothing is left to multiply. */
        private void exact(int shiftKind, boolean isOne, long inverse) {
            int last = 0;
            if (twos > 0 || isOne) {
                last = target.add(shiftKind, 0, twos);
            }
            if (!isOne) {
                target.add(4, last, inverse);
            }
        }
    }

    /** Looks for the LEAST form; its rows are made once and used for every look. */
    private static final class Search {
        private static final int WIDTH = 8;
        private static final int NUMBERS = 256;
        // 9 kinds that take a told number, 4 that take an operand, for three operands
        private static final int MOST_CHOICES = 3 * (9 * TOLD_COUNT + 4 * 3);
        // odd, so that its multiples go through all numbers of the width, and far from neighbours
        private static final int STRIDE = 167;
        private static final int MORE_THAN_ANY_COST = 1000;

        private final int[] prices = new int[KIND_COUNT];
        private int askedCount;
        private final long[] wanted = new long[NUMBERS];
        // rows[k][i]: the operand k of the asked number i, for the i below filled[k]
        private final long[][] rows = new long[MOST_LOOKED_STEPS][NUMBERS];
        private final int[] filled = new int[MOST_LOOKED_STEPS];
        private int choiceCount;
        private final int[] choiceKinds = new int[MOST_CHOICES];
        private final int[] choiceXs = new int[MOST_CHOICES];
        private final long[] choiceYs = new long[MOST_CHOICES];
        // a bit for each operand that the choice takes
        private final int[] choiceUses = new int[MOST_CHOICES];
        private final int[] picked = new int[MOST_LOOKED_STEPS];
        private int bestCost;
        private int bestLength;
        private final int[] best = new int[MOST_LOOKED_STEPS];

        void prepare(Asking asking, long[] toldNumbers, int[] newPrices) {
            System.arraycopy(newPrices, 0, prices, 0, KIND_COUNT);
            bestCost = MORE_THAN_ANY_COST;
            bestLength = 0;
            askedCount = 0;
            for (int i = 0; i < NUMBERS; i++) {
                long n = (NUMBERS - 1 - i * STRIDE) & (NUMBERS - 1);
                if (asking.asksOf(n)) {
                    rows[0][askedCount] = n;
                    wanted[askedCount] = asking.answer(n);
                    askedCount++;
                }
            }
            filled[0] = askedCount;
            listChoices(toldNumbers);
        }

        /** All steps of all places, in the order of KIND, x, y that settles which form comes first. */
        private void listChoices(long[] toldNumbers) {
            choiceCount = 0;
            for (int kind = 0; kind < KIND_COUNT; kind++) {
                for (int x = 0; x < MOST_LOOKED_STEPS; x++) {
                    if (Kinds.takesOperand(kind)) {
                        for (int y = 0; y < MOST_LOOKED_STEPS; y++) {
                            addChoice(kind, x, y, (1 << x) | (1 << y));
                        }
                    } else {
                        listTold(kind, x, toldNumbers);
                    }
                }
            }
        }

        private void listTold(int kind, int x, long[] toldNumbers) {
            for (int place = 0; place < TOLD_COUNT; place++) {
                long y = toldNumbers[place] & Bits.mask(WIDTH);
                boolean fits = !Kinds.takesCount(kind) || y < WIDTH;
                if (fits && !stoodBefore(toldNumbers, place, y)) {
                    addChoice(kind, x, y, 1 << x);
                }
            }
        }

        private static boolean stoodBefore(long[] toldNumbers, int place, long y) {
            for (int earlier = 0; earlier < place; earlier++) {
                if ((toldNumbers[earlier] & Bits.mask(WIDTH)) == y) {
                    return true;
                }
            }
            return false;
        }

        private void addChoice(int kind, int x, long y, int uses) {
            if (choiceCount < MOST_CHOICES) {
                choiceKinds[choiceCount] = kind;
                choiceXs[choiceCount] = x;
                choiceYs[choiceCount] = y;
                choiceUses[choiceCount] = uses;
                choiceCount++;
            }
        }

        /**
         * Tries all steps at a depth, and below it all forms of goal steps. idle has a bit for each operand
         * that no step took yet: a form that leaves one so is never the LEAST, as it costs more than the
         * same form without that step.
         */
        private void extend(int goal, int depth, int spent, int idle) {
            if (depth >= MOST_LOOKED_STEPS || depth >= goal) {
                return;
            }
            int stepsLeft = goal - depth - 1;
            for (int c = 0; c < choiceCount; c++) {
                int total = spent + prices[choiceKinds[c]];
                // every step to come costs at least 1, and an equal cost that comes later is no better
                if ((choiceUses[c] >> (depth + 1)) != 0 || total + stepsLeft >= bestCost) {
                    continue;
                }
                int stillIdle = idle & ~choiceUses[c];
                picked[depth] = c;
                if (stepsLeft > 0) {
                    filled[depth + 1] = 0;
                    extend(goal, depth + 1, total, stillIdle | (1 << (depth + 1)));
                } else if (stillIdle == 0 && isRight(depth)) {
                    keep(goal, total);
                }
            }
        }

        private boolean isRight(int depth) {
            for (int i = 0; i < askedCount; i++) {
                if (filled[depth] <= i) {
                    fillUpTo(depth, i);
                }
                if (valueOf(picked[depth], i) != wanted[i]) {
                    return false;
                }
            }
            return true;
        }

        private void fillUpTo(int depth, int last) {
            for (int k = 1; k <= depth; k++) {
                for (int i = filled[k]; i <= last; i++) {
                    rows[k][i] = valueOf(picked[k - 1], i);
                    filled[k] = i + 1;
                }
            }
        }

        private long valueOf(int c, int i) {
            int kind = choiceKinds[c];
            long y = choiceYs[c];
            if (Kinds.takesOperand(kind)) {
                y = rows[(int) y][i];
            }
            return Kinds.apply(WIDTH, kind, rows[choiceXs[c]][i], y);
        }

        private void keep(int length, int total) {
            bestCost = total;
            bestLength = length;
            for (int k = 0; k < length; k++) {
                best[k] = picked[k];
            }
        }

        void writeBest(Form target) {
            for (int k = 0; k < bestLength; k++) {
                int c = best[k];
                target.add(choiceKinds[c], choiceXs[c], choiceYs[c]);
            }
        }
    }

    /** What a hook holds: NOTHING, a step, or a row, whose cells stand narrowed to the row's kind. */
    private static final class Holding {
        final int kind;
        final int stepKind;
        final long stepY;
        final long[] cells;

        Holding(int kind, int stepKind, long stepY, int size) {
            this.kind = kind;
            this.stepKind = stepKind;
            this.stepY = stepY;
            this.cells = new long[size < 0 ? 0 : size];
        }

        boolean multiplies() {
            return stepKind >= 2 && stepKind <= 4;
        }

        boolean hasPlace(int place) {
            return place >= 0 && place < cells.length;
        }
    }

    /** What is needed to take an act back: whom it struck, and what stood there. */
    private static final class Act {
        final int kind;
        final int subject;
        final int place;
        final long old;
        final Holding holding;

        Act(int kind, int subject, int place, long old, Holding holding) {
            this.kind = kind;
            this.subject = subject;
            this.place = place;
            this.old = old;
            this.holding = holding;
        }

        boolean isOnForm(int f) {
            return subject == f && (kind == ACT_FORM || kind == ACT_STEP);
        }
    }

    /** The latest acts, the oldest first; what falls out is gone for good. */
    private static final class History {
        private final Act[] acts = new Act[MOST_ACTS];
        int size;

        void add(Act act) {
            if (size == MOST_ACTS) {
                for (int i = 1; i < MOST_ACTS; i++) {
                    acts[i - 1] = acts[i];
                }
                size--;
            }
            acts[size] = act;
            size++;
        }

        Act takeLatest() {
            if (size == 0) {
                return null;
            }
            size--;
            Act act = acts[size];
            acts[size] = null;
            return act;
        }

        void forgetForm(int f) {
            int kept = 0;
            for (int i = 0; i < size; i++) {
                Act act = acts[i];
                if (!act.isOnForm(f)) {
                    acts[kept] = act;
                    kept++;
                }
            }
            for (int i = kept; i < size; i++) {
                acts[i] = null;
            }
            size = kept;
        }
    }
}
