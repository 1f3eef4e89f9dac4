import java.math.BigInteger;
import java.util.ArrayList;
import java.util.Arrays;
import java.util.HashMap;
import java.util.List;
import java.util.Map;

/**
 * The document once more, word for word and with no thought of speed: games are played with
 * hands and fields as lists, THE MIX is sought among all corners by solving their equations.
 */
final class PlainModel {
    static final int LEAST = Integer.MIN_VALUE;

    private final List<int[]> cards = new ArrayList<>();
    private final List<List<Integer>> decks = new ArrayList<>();
    private int life = 12;
    private static final Map<String, Fraction[]> KNOWN_MIXES = new HashMap<>();

    int card(int sort, int cost, int power) {
        if (sort < 0 || sort > 2 || cost < 0 || cost > 5 || power < 0 || power > 9) return -2;
        if (cards.size() == 12) return -4;
        cards.add(new int[] {sort, cost, power});
        return cards.size() - 1;
    }

    int power(int card, int v) {
        if (!isCard(card) || v < 0 || v > 9) return -2;
        int was = cards.get(card)[2];
        cards.get(card)[2] = v;
        return was;
    }

    int deck() {
        if (decks.size() == 5) return -4;
        decks.add(new ArrayList<>());
        return decks.size() - 1;
    }

    int add(int deck, int card) {
        if (!isDeck(deck) || !isCard(card)) return -2;
        if (decks.get(deck).size() == 10) return -4;
        decks.get(deck).add(card);
        return decks.get(deck).size();
    }

    int drop(int deck, int place) {
        return isDeck(deck) && isPlace(deck, place) ? decks.get(deck).remove(place) : -2;
    }

    int swap(int deck, int one, int two) {
        if (!isDeck(deck) || !isPlace(deck, one) || !isPlace(deck, two)) return -2;
        java.util.Collections.swap(decks.get(deck), one, two);
        return 1;
    }

    int at(int deck, int place) {
        if (!isDeck(deck) || place < 0) return -2;
        return isPlace(deck, place) ? decks.get(deck).get(place) : -1;
    }

    int life(int v) {
        if (v < 5 || v > 40) return -2;
        int was = life;
        life = v;
        return was;
    }

    int play(int a, int b) {
        return isDeck(a) && isDeck(b) ? game(decks.get(a), decks.get(b))[5] : -2;
    }

    int told(int a, int b, int what) {
        return isDeck(a) && isDeck(b) && what >= 0 && what <= 4 ? game(decks.get(a), decks.get(b))[what] : LEAST;
    }

    int table(int a, int b) {
        return isDeck(a) && isDeck(b) ? tableOf(decks.get(a), decks.get(b)) : LEAST;
    }

    int rings() {
        return allRings().size();
    }

    int ring(int k, int i) {
        List<int[]> all = allRings();
        return k < 0 || k >= all.size() || i < 0 || i > 2 ? -2 : all.get(k)[i];
    }

    long share(int deck, int part) {
        if (!isDeck(deck) || part < 0 || part > 1) return -2;
        Fraction f = mix()[deck];
        return (part == 0 ? f.above : f.below).longValueExact();
    }

    int live() {
        if (decks.isEmpty()) return -3;
        int n = 0;
        for (Fraction f : mix()) if (f.sign() > 0) n++;
        return n;
    }

    int standing(int deck) {
        return isDeck(deck) ? Arrays.stream(tables()[deck]).sum() : LEAST;
    }

    int worth(int deck, int card) {
        if (!isDeck(deck) || !isCard(card) || !decks.get(deck).contains(card)) return LEAST;
        return standing(deck) - Arrays.stream(tablesWithout(deck, card)).sum();
    }

    int idle(int deck, int card) {
        if (!isDeck(deck) || !isCard(card)) return -2;
        if (!decks.get(deck).contains(card)) return -3;
        return Arrays.equals(tables()[deck], tablesWithout(deck, card)) ? 1 : 0;
    }

    int remedy(int u, int v) {
        if (v < 1 || v > 20 || u < 1 || u > v) return -2;
        if (decks.isEmpty()) return -3;
        int best = -1;
        int bestChange = 10;
        for (int c = 0; c < cards.size(); c++) {
            int was = cards.get(c)[2];
            for (int p = 0; p <= 9; p++) {
                if (p == was || Math.abs(p - was) >= bestChange) continue;
                cards.get(c)[2] = p;
                boolean good = true;
                for (Fraction f : mix()) good &= f.minus(Fraction.of(u, v)).sign() <= 0;
                if (good) {
                    best = 10 * c + p;
                    bestChange = Math.abs(p - was);
                }
            }
            cards.get(c)[2] = was;
        }
        return best;
    }

    int count(int what) {
        switch (what) {
            case 0: return cards.size();
            case 1: return decks.size();
            case 2: return decks.stream().mapToInt(List::size).sum();
            case 3: return life;
            default: return -2;
        }
    }

    private boolean isCard(int c) {
        return c >= 0 && c < cards.size();
    }

    private boolean isDeck(int d) {
        return d >= 0 && d < decks.size();
    }

    private boolean isPlace(int d, int p) {
        return p >= 0 && p < decks.get(d).size();
    }

    private List<int[]> allRings() {
        int[][] t = tables();
        List<int[]> all = new ArrayList<>();
        for (int a = 0; a < t.length; a++)
            for (int b = 0; b < t.length; b++)
                for (int c = 0; c < t.length; c++)
                    if (a < b && a < c && t[a][b] > 0 && t[b][c] > 0 && t[c][a] > 0) all.add(new int[] {a, b, c});
        return all;
    }

    int[][] tables() {
        int[][] t = new int[decks.size()][decks.size()];
        for (int a = 0; a < t.length; a++)
            for (int b = 0; b < t.length; b++) t[a][b] = tableOf(decks.get(a), decks.get(b));
        return t;
    }

    private int[] tablesWithout(int deck, int card) {
        List<Integer> whole = decks.get(deck);
        List<Integer> less = new ArrayList<>(whole);
        less.remove(Integer.valueOf(card));
        decks.set(deck, less);
        int[] row = tables()[deck];
        decks.set(deck, whole);
        return row;
    }

    private int tableOf(List<Integer> a, List<Integer> b) {
        return game(a, b)[5] - game(b, a)[5];
    }

    // ---- a game, as it is told

    private static final class Player {
        final List<Integer> deck;
        final List<Integer> hand = new ArrayList<>();
        final List<Integer> field = new ArrayList<>();
        int life;
        int played;

        Player(List<Integer> deck, int life) {
            this.deck = new ArrayList<>(deck);
            this.life = life;
        }
    }

    /** The turn, both lives, both numbers of played cards, the result. */
    private int[] game(List<Integer> a, List<Integer> b) {
        Player[] both = {new Player(a, life), new Player(b, life)};
        for (int turn = 1; turn <= 12; turn++) {
            for (int who = 0; who < 2; who++) {
                Player one = both[who];
                Player other = both[1 - who];
                move(one, other, turn);
                if (other.life <= 0) return outcome(turn, both, who == 0 ? 1 : -1);
            }
        }
        return outcome(12, both, both[0].life > both[1].life ? 1 : both[0].life < both[1].life ? -1 : 0);
    }

    private static int[] outcome(int turn, Player[] both, int result) {
        return new int[] {turn, both[0].life, both[1].life, both[0].played, both[1].played, result};
    }

    private void move(Player one, Player other, int turn) {
        for (int n = turn == 1 ? 2 : 1; n > 0 && !one.deck.isEmpty(); n--) one.hand.add(one.deck.remove(0));
        int harm = together(one.field, 0) - together(other.field, 2);
        if (harm > 0) other.life -= harm;
        if (other.life <= 0) return;
        int energy = turn > 6 ? 6 : turn;
        while (true) {
            Integer pick = null;
            for (Integer c : one.hand) {
                if (cards.get(c)[1] > energy) continue;
                if (pick == null || ahead(c, pick)) pick = c;
            }
            if (pick == null) return;
            one.hand.remove(pick);
            one.played++;
            energy -= cards.get(pick)[1];
            if (cards.get(pick)[0] == 1) {
                other.life -= cards.get(pick)[2];
                if (other.life <= 0) return;
            } else {
                one.field.add(pick);
            }
        }
    }

    private boolean ahead(int c, int d) {
        int[] x = cards.get(c);
        int[] y = cards.get(d);
        return x[1] > y[1] || x[1] == y[1] && (x[2] > y[2] || x[2] == y[2] && c < d);
    }

    private int together(List<Integer> field, int sort) {
        int sum = 0;
        for (int c : field) if (cards.get(c)[0] == sort) sum += cards.get(c)[2];
        return sum;
    }

    // ---- the mix

    Fraction[] mix() {
        return mixOf(tables());
    }

    static Fraction[] mixOf(int[][] t) {
        return KNOWN_MIXES.computeIfAbsent(Arrays.deepToString(t), k -> greatestCorner(t));
    }

    /** Of all solutions of n - 1 bounds met exactly and of 'together 1', the greatest that keeps all bounds. */
    private static Fraction[] greatestCorner(int[][] t) {
        int n = t.length;
        int[][] bounds = new int[2 * n][n];
        for (int k = 0; k < n; k++) {
            bounds[k][k] = 1;
            for (int i = 0; i < n; i++) bounds[n + k][i] = t[i][k];
        }
        Fraction[] best = null;
        for (int set = 0; set < 1 << 2 * n; set++) {
            if (Integer.bitCount(set) != n - 1) continue;
            Fraction[] x = solve(bounds, set, n);
            if (x != null && keeps(bounds, x) && (best == null || isGreater(x, best))) best = x;
        }
        return best;
    }

    private static Fraction[] solve(int[][] bounds, int set, int n) {
        Fraction[][] m = new Fraction[n][n + 1];
        Arrays.fill(m[0], Fraction.of(1, 1));
        int row = 1;
        for (int k = 0; k < bounds.length; k++) {
            if ((set >> k & 1) == 0) continue;
            for (int i = 0; i < n; i++) m[row][i] = Fraction.of(bounds[k][i], 1);
            m[row++][n] = Fraction.of(0, 1);
        }
        for (int c = 0; c < n; c++) {
            int p = c;
            while (p < n && m[p][c].sign() == 0) p++;
            if (p == n) return null;
            Fraction[] swap = m[p];
            m[p] = m[c];
            m[c] = swap;
            for (int r = 0; r < n; r++) {
                if (r == c || m[r][c].sign() == 0) continue;
                Fraction f = m[r][c].over(m[c][c]);
                for (int k = c; k <= n; k++) m[r][k] = m[r][k].minus(f.times(m[c][k]));
            }
        }
        Fraction[] x = new Fraction[n];
        for (int i = 0; i < n; i++) x[i] = m[i][n].over(m[i][i]);
        return x;
    }

    private static boolean keeps(int[][] bounds, Fraction[] x) {
        for (int[] bound : bounds) {
            Fraction sum = Fraction.of(0, 1);
            for (int i = 0; i < x.length; i++) sum = sum.minus(x[i].times(Fraction.of(-bound[i], 1)));
            if (sum.sign() < 0) return false;
        }
        return true;
    }

    static boolean isGreater(Fraction[] x, Fraction[] y) {
        for (int i = 0; i < x.length; i++) {
            int more = x[i].minus(y[i]).sign();
            if (more != 0) return more > 0;
        }
        return false;
    }

    static final class Fraction {
        final BigInteger above;
        final BigInteger below;

        Fraction(BigInteger above, BigInteger below) {
            BigInteger g = above.gcd(below);
            if (below.signum() < 0) g = g.negate();
            this.above = above.divide(g);
            this.below = below.divide(g);
        }

        static Fraction of(long above, long below) {
            return new Fraction(BigInteger.valueOf(above), BigInteger.valueOf(below));
        }

        Fraction minus(Fraction o) {
            return new Fraction(above.multiply(o.below).subtract(o.above.multiply(below)), below.multiply(o.below));
        }

        Fraction times(Fraction o) {
            return new Fraction(above.multiply(o.above), below.multiply(o.below));
        }

        Fraction over(Fraction o) {
            return new Fraction(above.multiply(o.below), below.multiply(o.above));
        }

        int sign() {
            return above.signum();
        }

        @Override
        public String toString() {
            return above + "/" + below;
        }
    }
}
