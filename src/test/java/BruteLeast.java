import java.util.ArrayList;
import java.util.List;

/** LEAST with no form left out, compared by the document's order in so many words. */
final class BruteLeast {
    private final int[] want = new int[256];
    private final boolean[] asked = new boolean[256];
    private final long[] told;
    private final int[] prices;
    private final long[][] now = new long[3][];
    private long[][] best;
    private int bestCost;

    BruteLeast(int signed, int wish, long d, long[] told, int[] prices) {
        this.told = told;
        this.prices = prices;
        int dd = signed == 1 ? (byte) d : (int) (d & 255);
        for (int n = 0; n < 256; n++) {
            int v = signed == 1 ? (byte) n : n;
            asked[n] = wish != 5 || v % dd == 0;
            int r = wish == 0 || wish == 5 ? v / dd
                : wish == 1 ? Math.floorDiv(v, dd)
                : wish == 2 ? v % dd
                : wish == 3 ? Math.floorMod(v, dd)
                : v % dd == 0 ? 1 : 0;
            want[n] = r & 255;
        }
    }

    /** Rows of KIND, x, y, place or operand; null if no form is RIGHT. */
    long[][] find(int most) {
        for (int length = 1; length <= most; length++) grow(length, 0);
        return best;
    }

    private void grow(int length, int depth) {
        if (depth == length) {
            offer(length);
            return;
        }
        for (long[] s : stepsAt(depth)) {
            now[depth] = s;
            grow(length, depth + 1);
        }
    }

    // told numbers last place first, so that the order is settled by comesFirst alone
    private List<long[]> stepsAt(int depth) {
        List<long[]> list = new ArrayList<>();
        for (int kind = 12; kind >= 0; kind--) {
            for (int x = depth; x >= 0; x--) {
                if (ModelSmith.takesOperand(kind)) {
                    for (int y = depth; y >= 0; y--) list.add(new long[] {kind, x, y, y});
                } else {
                    for (int p = 3; p >= 0; p--) {
                        long y = told[p] & 255;
                        if (!ModelSmith.takesCount(kind) || y < 8) list.add(new long[] {kind, x, y, p});
                    }
                }
            }
        }
        return list;
    }

    private void offer(int length) {
        int cost = 0;
        for (int k = 0; k < length; k++) cost += prices[(int) now[k][0]];
        if (best != null && (cost > bestCost || (cost == bestCost && !comesFirst(length)))) return;
        for (int n = 0; n < 256; n++) {
            if (asked[n] && make(n, length) != want[n]) return;
        }
        best = new long[length][];
        for (int k = 0; k < length; k++) best[k] = now[k];
        bestCost = cost;
    }

    private boolean comesFirst(int length) {
        if (length != best.length) return length < best.length;
        for (int k = 0; k < length; k++) {
            for (int part : new int[] {0, 1, 3}) {
                if (now[k][part] != best[k][part]) return now[k][part] < best[k][part];
            }
        }
        return false;
    }

    private int make(int n, int length) {
        int[] v = new int[4];
        v[0] = n;
        for (int k = 0; k < length; k++) {
            int y = (int) now[k][2];
            int kind = (int) now[k][0];
            v[k + 1] = one(kind, v[(int) now[k][1]], ModelSmith.takesOperand(kind) ? v[y] : y) & 255;
        }
        return v[length];
    }

    private static int one(int kind, int x, int y) {
        switch (kind) {
            case 0: return x >> y;
            case 1: return (byte) x >> y;
            case 2: return x * y >> 8;
            case 3: return (byte) x * (byte) y >> 8;
            case 4: return x * y;
            case 5: return x + y;
            case 6: return x - y;
            case 7: return y - x;
            case 8: return x ^ y;
            case 9: return x & y;
            case 10: return (x | x << 8) >> y;
            case 11: return x <= y ? 1 : 0;
            default: return x > 127 ? y : 0;
        }
    }
}
