import java.util.Random;

/**
 * Promise 15 by the words of the document alone: "none below 0, all together 1", "in lowest terms",
 * the shares HOLD, and no MIX of up to eight parts that HOLDS is greater.
 */
public final class GreatestMixTest {
    private static final Due due = new Due();

    public static void main(String[] args) {
        Random random = new Random(1);
        for (int run = 0; run < 3000; run++) {
            DeckBalance x = made(random);
            int n = x.count(1);
            long whole = 1;
            for (int d = 0; d < n; d++) {
                whole *= x.share(d, 1) / common(whole, x.share(d, 1));
            }
            long[] parts = new long[n];
            long sum = 0;
            for (int d = 0; d < n; d++) {
                parts[d] = x.share(d, 0) * (whole / x.share(d, 1));
                sum += parts[d];
                due.is("run " + run + ": none below 0", parts[d] < 0 ? 1 : 0, 0);
                due.is("run " + run + ": lowest terms", common(x.share(d, 0), x.share(d, 1)), 1);
            }
            due.is("run " + run + ": all together 1", sum, whole);
            int[][] tables = tables(x, n);
            due.is("run " + run + ": the shares hold", holds(tables, parts) ? 1 : 0, 1);
            for (int of = 1; of <= 8; of++) {
                seekGreater(tables, parts, whole, new long[n], 0, of, of);
            }
        }
        due.end();
    }

    private static DeckBalance made(Random random) {
        int cards = 2 + random.nextInt(4);
        DeckBalance x = new DeckBalance();
        x.life(5 + random.nextInt(36));
        for (int i = 0; i < cards; i++) {
            x.card(random.nextInt(3), random.nextInt(6), random.nextInt(10));
        }
        int decks = 1 + random.nextInt(5);
        for (int d = 0; d < decks; d++) {
            x.deck();
            for (int size = random.nextInt(7); size > 0; size--) {
                x.add(d, random.nextInt(cards));
            }
        }
        return x;
    }

    /** Asked once only: an object is used for 512 calls at most. */
    private static int[][] tables(DeckBalance x, int n) {
        int[][] tables = new int[n][n];
        for (int a = 0; a < n; a++) {
            for (int b = 0; b < n; b++) {
                tables[a][b] = x.table(a, b);
            }
        }
        return tables;
    }

    private static void seekGreater(int[][] tables, long[] parts, long whole, long[] other, int from, long left, long of) {
        if (from == other.length - 1) {
            other[from] = left;
            if (isGreater(other, of, parts, whole)) {
                due.is("a greater mix holds", holds(tables, other) ? 1 : 0, 0);
            }
            return;
        }
        for (long p = left; p >= 0; p--) {
            other[from] = p;
            seekGreater(tables, parts, whole, other, from + 1, left - p, of);
        }
    }

    private static boolean isGreater(long[] one, long oneWhole, long[] two, long twoWhole) {
        for (int i = 0; i < one.length; i++) {
            if (one[i] * twoWhole != two[i] * oneWhole) {
                return one[i] * twoWhole > two[i] * oneWhole;
            }
        }
        return false;
    }

    private static boolean holds(int[][] tables, long[] parts) {
        for (int against = 0; against < parts.length; against++) {
            long sum = 0;
            for (int d = 0; d < parts.length; d++) {
                sum += parts[d] * tables[d][against];
            }
            if (sum < 0) {
                return false;
            }
        }
        return true;
    }

    private static long common(long a, long b) {
        return b == 0 ? a : common(b, a % b);
    }
}
