/** Promises 12 to 14: tables, rings. What a test quotes is the sentence of the document that it would see broken. */
public final class TablesTest {
    private static final int FIGHTER = 0, BLOW = 1, WALL = 2;
    private static final int[][] RING_CARDS = Due.cards(Due.card(FIGHTER, 3, 5), Due.card(WALL, 2, 3), Due.card(BLOW, 0, 1));
    private static final Due due = new Due();

    public static void main(String[] args) {
        tables();
        oddTables();
        tableWithItself();
        wrongDecks();
        oneRing();
        leastDeckFirst();
        ringsFollowEveryChange();
        beatsByOne();
        evenIsNotBeaten();
        fewerThanThreeDecks();
        fourRings();
        fiveRings();
        noSuchRing();
        noSuchDeckOfARing();
        due.end();
    }

    /** "RESULT of a against b, less RESULT of b against a". */
    private static void tables() {
        int[][] cards = Due.cards(Due.card(BLOW, 0, 9), Due.card(FIGHTER, 0, 9), Due.card(BLOW, 0, 3));
        DeckBalance x = Due.made(9, cards, Due.deck(0), Due.deck(0, 0), Due.deck(), Due.deck(1), Due.deck(2));
        due.is("who is first wins both", x.table(0, 1), 0);
        due.is("won and won", x.table(0, 2), 2);
        due.is("lost and lost", x.table(2, 0), -2);
        due.is("the blow is ahead of the fighter", x.table(0, 3), 2);
        due.is("won by life", x.table(4, 2), 2);
    }

    /** The wall of deck 1 comes in turn 2: too late for the first hit if deck 0 is first. */
    private static void oddTables() {
        DeckBalance x = Due.made(12, Due.cards(Due.card(FIGHTER, 0, 1), Due.card(WALL, 2, 1)), Due.deck(0), Due.deck(1));
        due.is("first wins", x.play(0, 1), 1);
        due.is("second only draws", x.play(1, 0), 0);
        due.is("one won, one drawn", x.table(0, 1), 1);
        due.is("one lost, one drawn", x.table(1, 0), -1);
    }

    private static void tableWithItself() {
        DeckBalance x = Due.made(9, Due.cards(Due.card(BLOW, 0, 9)), Due.deck(0), Due.deck());
        due.is("who is first wins against itself", x.play(0, 0), 1);
        due.is("yet its table is even", x.table(0, 0), 0);
        due.is("an empty deck with itself", x.table(1, 1), 0);
    }

    /** table's "The least int: BAD." */
    private static void wrongDecks() {
        DeckBalance x = Due.made(12, Due.cards(), Due.deck(), Due.deck());
        for (int d : Due.outside(0, 1)) {
            due.is("table(" + d + ", 0)", x.table(d, 0), Due.LEAST);
            due.is("table(1, " + d + ")", x.table(1, d), Due.LEAST);
            due.is("table(" + d + ", " + d + ")", x.table(d, d), Due.LEAST);
        }
        due.is("table without decks", new DeckBalance().table(0, 0), Due.LEAST);
    }

    /** "of which a BEATS b, b BEATS c, c BEATS a". */
    private static void oneRing() {
        DeckBalance x = Due.made(29, RING_CARDS, Due.deck(2, 1, 1), Due.deck(0), Due.deck(2, 2, 1));
        due.is("0 beats 1", x.table(0, 1), 2);
        due.is("1 beats 2", x.table(1, 2), 2);
        due.is("2 beats 0", x.table(2, 0), 2);
        rings(x, "012");
    }

    /** "(a the least)": the same three DECKS in all their orders. */
    private static void leastDeckFirst() {
        int[] one = Due.deck(2, 1, 1), two = Due.deck(0), three = Due.deck(2, 2, 1);
        rings(Due.made(29, RING_CARDS, two, three, one), "012");
        rings(Due.made(29, RING_CARDS, three, one, two), "012");
        rings(Due.made(29, RING_CARDS, two, one, three), "021");
        rings(Due.made(29, RING_CARDS, one, three, two), "021");
        rings(Due.made(29, RING_CARDS, three, two, one), "021");
        rings(Due.made(29, RING_CARDS, Due.deck(), Due.deck(), one, two, three), "234");
    }

    private static void ringsFollowEveryChange() {
        DeckBalance x = Due.made(29, RING_CARDS, Due.deck(2, 1, 1), Due.deck(), Due.deck(2, 2, 1));
        due.is("an empty deck beats none", x.rings(), 0);
        x.add(1, 0);
        rings(x, "012");
        x.power(0, 0);
        due.is("no ring without its power", x.rings(), 0);
        x.power(0, 5);
        rings(x, "012");
        x.drop(1, 0);
        due.is("no ring without its card", x.rings(), 0);
        due.is("no such ring", x.ring(0, 0), -2);
    }

    /** "a BEATS b, if it is above 0": 1 is enough, for each of the three. */
    private static void beatsByOne() {
        int[][] cards = Due.cards(Due.card(BLOW, 4, 3), Due.card(WALL, 1, 3), Due.card(FIGHTER, 0, 3), Due.card(WALL, 2, 6));
        int[][] decks = {Due.deck(2, 0), Due.deck(3, 0, 1), Due.deck(2, 3)};
        for (int k = 0; k < 3; k++) {
            DeckBalance x = Due.made(39, cards, decks[k], decks[(k + 1) % 3], decks[(k + 2) % 3]);
            due.is("0 against 1", x.table(0, 1), k == 2 ? 2 : 1);
            due.is("1 against 2", x.table(1, 2), k == 1 ? 2 : 1);
            due.is("2 against 0", x.table(2, 0), k == 0 ? 2 : 1);
            rings(x, "012");
        }
    }

    /** "a BEATS b, if it is above 0": 0 is not. One deck beats another, that one a third, which is even with the first. */
    private static void evenIsNotBeaten() {
        int[][] cards = Due.cards(Due.card(WALL, 0, 1), Due.card(FIGHTER, 2, 1));
        int[][] decks = {Due.deck(1, 1), Due.deck(0), Due.deck(0, 1, 0)};
        int[][] orders = {{0, 1, 2}, {0, 2, 1}, {1, 0, 2}, {1, 2, 0}, {2, 0, 1}, {2, 1, 0}};
        for (int[] o : orders) {
            DeckBalance x = Due.made(39, cards, decks[o[0]], decks[o[1]], decks[o[2]]);
            due.is("an even pair makes no ring", x.rings(), 0);
            due.is("nor can it be asked for", x.ring(0, 0), -2);
        }
    }

    /** "A RING are three DECKS". */
    private static void fewerThanThreeDecks() {
        DeckBalance x = new DeckBalance();
        rings(x);
        x.card(BLOW, 0, 9);
        for (int decks = 1; decks <= 2; decks++) {
            x.add(x.deck(), 0);
            rings(x);
        }
    }

    private static void fourRings() {
        int[][] cards = Due.cards(Due.card(BLOW, 3, 7), Due.card(BLOW, 1, 6), Due.card(WALL, 4, 8), Due.card(FIGHTER, 3, 4));
        DeckBalance x = Due.made(19, cards, Due.deck(1, 0), Due.deck(2, 1), Due.deck(0, 2), Due.deck(3), Due.deck(0, 1));
        rings(x, ringsByTables(x));
        due.is("four of them", x.rings(), 4);
    }

    /** "rings stand by a, then b, then c"; five is the most that five DECKS can have. */
    private static void fiveRings() {
        int[][] cards = Due.cards(Due.card(BLOW, 2, 2), Due.card(WALL, 1, 6), Due.card(FIGHTER, 1, 3), Due.card(WALL, 0, 7), Due.card(FIGHTER, 2, 6));
        DeckBalance x = Due.made(27, cards, Due.deck(3, 1, 4), Due.deck(0, 1, 0), Due.deck(0, 0, 0, 2, 0), Due.deck(0, 1, 1), Due.deck(4, 4));
        rings(x, "021", "023", "041", "134", "234");
        rings(x, ringsByTables(x));
    }

    /** ring's "BAD: also no such one". */
    private static void noSuchRing() {
        DeckBalance x = Due.made(29, RING_CARDS, Due.deck(2, 1, 1), Due.deck(0), Due.deck(2, 2, 1));
        for (int k : Due.outside(0, 0)) {
            for (int i = 0; i < 3; i++) {
                due.is("ring(" + k + ", " + i + ")", x.ring(k, i), -2);
            }
        }
        due.is("no decks, no ring", new DeckBalance().ring(0, 0), -2);
    }

    /** "DECK i (0 .. 2)". */
    private static void noSuchDeckOfARing() {
        DeckBalance x = Due.made(29, RING_CARDS, Due.deck(2, 1, 1), Due.deck(0), Due.deck(2, 2, 1));
        for (int i : Due.outside(0, 2)) {
            due.is("ring(0, " + i + ")", x.ring(0, i), -2);
        }
        // That would be the first deck of the next ring, or the last of the one before.
        DeckBalance five = Due.made(19, Due.cards(Due.card(BLOW, 3, 7), Due.card(BLOW, 1, 6), Due.card(WALL, 4, 8), Due.card(FIGHTER, 3, 4)),
            Due.deck(1, 0), Due.deck(2, 1), Due.deck(0, 2), Due.deck(3), Due.deck(0, 1));
        due.is("ring(0, 3)", five.ring(0, 3), -2);
        due.is("ring(1, -1)", five.ring(1, -1), -2);
    }

    private static void rings(DeckBalance x, String... want) {
        due.is("rings()", x.rings(), want.length);
        for (int k = 0; k < want.length; k++) {
            for (int i = 0; i < 3; i++) {
                due.is("ring(" + k + ", " + i + ")", x.ring(k, i), want[k].charAt(i) - '0');
            }
        }
        due.is("not one more", x.ring(want.length, 0), -2);
    }

    private static String[] ringsByTables(DeckBalance x) {
        java.util.List<String> all = new java.util.ArrayList<>();
        int n = x.count(1);
        for (int a = 0; a < n; a++) {
            for (int b = a + 1; b < n; b++) {
                for (int c = a + 1; c < n; c++) {
                    if (x.table(a, b) > 0 && x.table(b, c) > 0 && x.table(c, a) > 0) {
                        all.add("" + a + b + c);
                    }
                }
            }
        }
        return all.toArray(new String[0]);
    }
}
