/** Counts the calls whose answer is not the one that is due, and makes objects to ask. */
final class Due {
    static final int LEAST = Integer.MIN_VALUE;
    static final int MOST = Integer.MAX_VALUE;
    private int asked;
    private int wrong;

    void is(String call, long got, long want) {
        asked++;
        if (got != want) {
            wrong++;
            System.out.println(call + " answered " + got + ", due is " + want);
        }
    }

    /** The shares of all decks, as "1/3 2/3". */
    void shares(String of, DeckBalance x, String want) {
        StringBuilder got = new StringBuilder();
        for (int d = 0; d < x.count(1); d++) {
            got.append(d == 0 ? "" : " ").append(x.share(d, 0)).append('/').append(x.share(d, 1));
        }
        asked++;
        if (!got.toString().equals(want)) {
            wrong++;
            System.out.println(of + " has shares " + got + ", due are " + want);
        }
    }

    /** A told, in its order: turn, both lives, both numbers of cards. */
    void told(String of, DeckBalance x, int a, int b, int... want) {
        for (int what = 0; what < 5; what++) {
            is(of + ": told(" + a + ", " + b + ", " + what + ")", x.told(a, b, what), want[what]);
        }
    }

    /** Numbers out of their bounds: just outside, and as far as an int goes. */
    static int[] outside(int least, int most) {
        return new int[] {least - 1, most + 1, LEAST, MOST};
    }

    void end() {
        System.out.println(asked + " answers, " + wrong + " not as due");
        if (wrong != 0) {
            System.exit(1);
        }
    }

    static int[] card(int sort, int cost, int power) {
        return new int[] {sort, cost, power};
    }

    static int[][] cards(int[]... cards) {
        return cards;
    }

    static int[] deck(int... cards) {
        return cards;
    }

    static DeckBalance made(int life, int[][] cards, int[]... decks) {
        DeckBalance x = new DeckBalance();
        x.life(life);
        for (int[] c : cards) {
            x.card(c[0], c[1], c[2]);
        }
        for (int d = 0; d < decks.length; d++) {
            x.deck();
            for (int c : decks[d]) {
                x.add(d, c);
            }
        }
        return x;
    }
}
