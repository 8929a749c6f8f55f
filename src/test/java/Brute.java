import java.math.BigInteger;
import java.util.ArrayList;
import java.util.Arrays;
import java.util.HashMap;
import java.util.List;
import java.util.Map;

/** What is reckoned in thought, tried out by brute force. */
final class Brute {
    private static final Map<String, Boolean> GAMES = new HashMap<>();

    private Brute() {
    }

    /** Rows of how many of each: the last size takes what is left. */
    static int ways(List<Integer> sizes, int sum) {
        BigInteger[] row = new BigInteger[sum + 1];
        Arrays.fill(row, BigInteger.ZERO);
        row[0] = BigInteger.ONE;
        for (int size : sizes) {
            BigInteger[] next = new BigInteger[sum + 1];
            for (int s = 0; s <= sum; s++) {
                next[s] = BigInteger.ZERO;
                for (int rest = s; rest >= 0; rest -= size) {
                    next[s] = next[s].add(row[rest]);
                }
            }
            row = next;
        }
        return row[sum].mod(BigInteger.valueOf(1000000007)).intValue();
    }

    /** All sums of n things, for n one by one, till the sum is among them. */
    static int fewest(List<Integer> sizes, int sum) {
        boolean[] row = new boolean[sum + 1];
        row[0] = true;
        for (int n = 0; n <= sum; n++) {
            if (row[sum]) {
                return n;
            }
            boolean[] next = new boolean[sum + 1];
            for (int s = 0; s <= sum; s++) {
                for (int size : sizes) {
                    next[s] |= s >= size && row[s - size];
                }
            }
            row = next;
        }
        return row[sum] ? sum + 1 : -1;
    }

    static int strings(List<Integer> lengths, int c) {
        return strings(lengths, 0, new ArrayList<>(), c);
    }

    private static int strings(List<Integer> lengths, int i, List<Integer> used, int c) {
        if (i == lengths.size()) {
            return used.size();
        }
        int best = Integer.MAX_VALUE;
        for (int k = 0; k < used.size(); k++) {
            int before = used.get(k);
            if (before + lengths.get(i) <= c) {
                used.set(k, before + lengths.get(i));
                best = Math.min(best, strings(lengths, i + 1, used, c));
                used.set(k, before);
            }
        }
        used.add(lengths.get(i));
        best = Math.min(best, strings(lengths, i + 1, used, c));
        used.remove(used.size() - 1);
        return best;
    }

    /** KINDS of BIDDERS 0 .. 7, then how much; the first of the best in the order of trying. */
    static int[] wishes(Map<Integer, Integer> wants, int men) {
        int[] best = new int[9];
        best[8] = -1;
        wishes(wants, men, 0, 0, new int[9], best);
        return best;
    }

    private static void wishes(Map<Integer, Integer> wants, int men, int b, int used, int[] now, int[] best) {
        if (b == men) {
            if (now[8] > best[8]) {
                System.arraycopy(now, 0, best, 0, 9);
            }
            return;
        }
        // Only wanted things are tried: one that is not wanted can't be in the first of several best ways.
        for (int kind = 0; kind <= 7; kind++) {
            int want = kind == 0 ? 0 : wants.getOrDefault(10 * b + kind, 0);
            if (kind != 0 && (want == 0 || (used >> kind & 1) == 1)) {
                continue;
            }
            now[b] = kind;
            now[8] += want;
            wishes(wants, men, b + 1, kind == 0 ? used : used | 1 << kind, now, best);
            now[8] -= want;
            now[b] = 0;
        }
    }

    /** Day by day one of those left or none is sold. */
    static int[] puts(List<int[]> puts) {
        int[] best = {0, 0};
        puts(puts, 0, 0, new int[] {0, 0}, best);
        return best;
    }

    private static void puts(List<int[]> puts, int day, int sold, int[] now, int[] best) {
        if (now[0] > best[0] || now[0] == best[0] && now[1] > best[1]) {
            best[0] = now[0];
            best[1] = now[1];
        }
        // To sell nothing on a day is never better than to sell something, so it is not tried.
        for (int i = 0; i < puts.size(); i++) {
            if ((sold >> i & 1) == 0 && puts.get(i)[1] >= day) {
                now[0] += puts.get(i)[0];
                now[1]++;
                puts(puts, day + 1, sold | 1 << i, now, best);
                now[0] -= puts.get(i)[0];
                now[1]--;
            }
        }
    }

    static int parts(List<int[]> clues, int lots) {
        int best = clues.size();
        for (int set = 0; set < 1 << clues.size(); set++) {
            boolean all = true;
            for (int p = 0; p < lots; p++) {
                for (int q = 0; q < lots; q++) {
                    all &= !apart(clues, (1 << clues.size()) - 1, p, q) || apart(clues, set, p, q);
                }
            }
            if (all) {
                best = Math.min(best, Integer.bitCount(set));
            }
        }
        return best;
    }

    private static boolean apart(List<int[]> clues, int set, int p, int q) {
        for (int i = 0; i < clues.size(); i++) {
            if ((set >> i & 1) == 1 && (clues.get(i)[0] >> p & 1) != (clues.get(i)[0] >> q & 1)) {
                return true;
            }
        }
        return false;
    }

    /** Whether who begins wins: heaps in order, since which PARCEL it is does not matter; pairs are kept too. */
    static boolean wins(int[] heaps) {
        int[] sorted = heaps.clone();
        Arrays.sort(sorted);
        String key = Arrays.toString(Arrays.stream(sorted).filter(v -> v > 0).toArray());
        Boolean known = GAMES.get(key);
        if (known != null) {
            return known;
        }
        boolean wins = false;
        for (int i = 0; i < sorted.length && !wins; i++) {
            for (int n = 1; n <= sorted[i] && !wins; n++) {
                if (n <= 2 || n == sorted[i]) {
                    int[] next = sorted.clone();
                    next[i] -= n;
                    wins = !wins(next);
                }
            }
        }
        GAMES.put(key, wins);
        return wins;
    }
}
