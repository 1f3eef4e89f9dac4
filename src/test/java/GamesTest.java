/** Promises 10 to 14: games, tables, rings. */
public final class GamesTest {
    private static final int FIGHTER = 0, BLOW = 1, WALL = 2;
    private static final Due due = new Due();

    public static void main(String[] args) {
        emptyDecks();
        drawing();
        blowsEndAtOnce();
        fightersEndAheadOfPlaying();
        fightersWaitForTheNextTurn();
        energy();
        whichCardIsPlayed();
        walls();
        behindTheLastTurn();
        firstAndSecond();
        tables();
        rings();
        noRings();
        manyRings();
        wrongDecks();
        due.end();
    }

    private static void emptyDecks() {
        DeckBalance x = Due.made(12, Due.cards(), Due.deck(), Due.deck());
        due.is("empty decks draw", x.play(0, 1), 0);
        due.is("an empty deck and itself", x.play(0, 0), 0);
        due.told("empty", x, 0, 1, 12, 12, 12, 0, 0);
    }

    private static void drawing() {
        int[] ten = Due.deck(0, 0, 0, 0, 0, 0, 0, 0, 0, 0);
        DeckBalance x = Due.made(12, Due.cards(Due.card(BLOW, 0, 1)), ten, Due.deck());
        due.told("all ten are drawn", x, 0, 1, 12, 12, 2, 10, 0);
        x.life(5);
        due.told("two, then one a turn", x, 0, 1, 4, 5, 0, 5, 0);
        x.life(10);
        due.told("the tenth in turn 9", x, 0, 1, 9, 10, 0, 10, 0);
        due.told("b too draws two, then one a turn", x, 1, 0, 9, 0, 10, 0, 10);
    }

    private static void blowsEndAtOnce() {
        DeckBalance x = Due.made(5, Due.cards(Due.card(BLOW, 0, 9), Due.card(BLOW, 0, 5)), Due.deck(0, 0), Due.deck(1, 1));
        due.is("the first one's blow", x.play(0, 1), 1);
        due.told("one card is enough", x, 0, 1, 1, 5, -4, 1, 0);
        due.told("life 0 is lost", x, 1, 0, 1, 5, 0, 1, 0);
        x.life(10);
        due.told("the second one's blow", x, 0, 1, 1, 10, -8, 2, 0);
        due.told("between two moves", x, 1, 0, 1, 10, 0, 2, 0);
        x.life(11);
        due.is("the second one wins", x.play(1, 0), -1);
        due.told("the second one wins", x, 1, 0, 1, -7, 1, 2, 2);
    }

    private static void fightersEndAheadOfPlaying() {
        DeckBalance x = Due.made(9, Due.cards(Due.card(FIGHTER, 0, 9), Due.card(WALL, 0, 0)), Due.deck(0, 1, 1), Due.deck(1, 1, 1));
        due.told("the card drawn in turn 2 is not played", x, 0, 1, 2, 9, 0, 2, 2);
        due.told("as second", x, 1, 0, 2, 0, 9, 3, 2);
    }

    private static void fightersWaitForTheNextTurn() {
        DeckBalance x = Due.made(12, Due.cards(Due.card(FIGHTER, 0, 4)), Due.deck(0), Due.deck());
        due.told("harm in turns 2, 3, 4", x, 0, 1, 4, 12, 0, 1, 0);
        due.is("it wins", x.play(0, 1), 1);
        due.is("also as second", x.play(1, 0), -1);
        due.is("against itself who is first", x.play(0, 0), 1);
        due.told("against itself", x, 0, 0, 4, 4, 0, 1, 1);
    }

    private static void energy() {
        DeckBalance late = Due.made(9, Due.cards(Due.card(BLOW, 5, 9)), Due.deck(0), Due.deck());
        due.told("cost 5 waits for turn 5", late, 0, 1, 5, 9, 0, 1, 0);
        int[] ten = Due.deck(0, 0, 0, 0, 0, 0, 0, 0, 0, 0);
        DeckBalance four = Due.made(40, Due.cards(Due.card(BLOW, 4, 1)), ten, Due.deck());
        due.told("cost 4 never twice a turn: 6 at most", four, 0, 1, 12, 40, 31, 9, 0);
        DeckBalance seven = Due.made(5, Due.cards(Due.card(BLOW, 4, 1), Due.card(BLOW, 3, 1)), Due.deck(0, 0, 0, 0, 0, 1, 1, 1, 1, 1), Due.deck());
        due.told("4 and 3 never in one turn", seven, 0, 1, 8, 5, 0, 5, 0);
        DeckBalance three = Due.made(7, Due.cards(Due.card(BLOW, 3, 1)), ten, Due.deck());
        due.told("cost 3 twice from turn 6 on", three, 0, 1, 7, 7, 0, 7, 0);
        DeckBalance two = Due.made(40, Due.cards(Due.card(BLOW, 2, 9), Due.card(BLOW, 1, 5)), Due.deck(0, 1, 1), Due.deck());
        due.told("what is left of it is not kept", two, 0, 1, 12, 40, 21, 3, 0);
        two.life(19);
        due.told("the 1 of turn 3 is left for cost 1", two, 0, 1, 3, 19, 0, 3, 0);
        DeckBalance none = Due.made(5, Due.cards(Due.card(BLOW, 0, 5), Due.card(BLOW, 1, 0)), Due.deck(1, 0), Due.deck());
        due.told("cost 0 with no energy left", none, 0, 1, 1, 5, 0, 2, 0);
    }

    private static void whichCardIsPlayed() {
        DeckBalance cost = Due.made(9, Due.cards(Due.card(BLOW, 1, 9), Due.card(WALL, 2, 0), Due.card(WALL, 5, 0)),
            Due.deck(1, 2, 0), Due.deck());
        due.told("the greatest cost", cost, 0, 1, 3, 9, 0, 2, 0);
        DeckBalance power = Due.made(9, Due.cards(Due.card(BLOW, 2, 3), Due.card(BLOW, 2, 9)), Due.deck(0, 1), Due.deck());
        due.told("the greatest power", power, 0, 1, 2, 9, 0, 1, 0);
        power.power(0, 9);
        power.power(1, 3);
        due.told("by the power of now", power, 0, 1, 2, 9, 0, 1, 0);
        DeckBalance least = Due.made(10, Due.cards(Due.card(FIGHTER, 2, 5), Due.card(WALL, 2, 5)), Due.deck(1, 0), Due.deck());
        due.told("the least card", least, 0, 1, 4, 10, 0, 2, 0);
        DeckBalance greatest = Due.made(10, Due.cards(Due.card(WALL, 2, 5), Due.card(FIGHTER, 2, 5)), Due.deck(1, 0), Due.deck());
        due.told("not the first drawn", greatest, 0, 1, 5, 10, 0, 2, 0);
    }

    private static void walls() {
        int[][] cards = Due.cards(Due.card(FIGHTER, 0, 3), Due.card(WALL, 0, 2), Due.card(WALL, 0, 9));
        DeckBalance x = Due.made(12, cards, Due.deck(0), Due.deck(1), Due.deck(0, 0), Due.deck(1, 1), Due.deck(2));
        due.told("3 less 2", x, 0, 1, 12, 12, 1, 1, 1);
        due.told("6 less 2", x, 2, 1, 4, 12, 0, 2, 1);
        due.told("6 less 4", x, 2, 3, 7, 12, 0, 2, 2);
        due.told("3 less 4 is no gain", x, 0, 3, 12, 12, 12, 1, 2);
        due.told("3 less 9", x, 0, 4, 12, 12, 12, 1, 1);
        due.told("walls do no harm", x, 3, 4, 12, 12, 12, 2, 1);
    }

    private static void behindTheLastTurn() {
        DeckBalance x = Due.made(40, Due.cards(Due.card(FIGHTER, 0, 1), Due.card(BLOW, 0, 1)), Due.deck(0), Due.deck(), Due.deck(1));
        due.is("more life wins", x.play(0, 1), 1);
        due.told("eleven times 1", x, 0, 1, 12, 40, 29, 1, 0);
        due.is("less life loses", x.play(1, 0), -1);
        due.is("as much is a draw", x.play(0, 0), 0);
        due.told("as much", x, 0, 0, 12, 29, 29, 1, 1);
        due.is("the lesser harm", x.play(2, 0), -1);
        x.life(11);
        due.told("the last hit in turn 12", x, 0, 1, 12, 11, 0, 1, 0);
        due.is("the first one's hit in turn 12 comes first", x.play(0, 0), 1);
        due.told("the first one's hit in turn 12 comes first", x, 0, 0, 12, 1, 0, 1, 1);
    }

    private static void firstAndSecond() {
        DeckBalance x = Due.made(9, Due.cards(Due.card(BLOW, 0, 9), Due.card(BLOW, 1, 9)), Due.deck(0), Due.deck(1));
        due.is("a is first", x.play(0, 1), 1);
        due.is("b is first", x.play(1, 0), 1);
        due.told("b does not come to its move", x, 1, 0, 1, 9, 0, 1, 0);
    }

    private static void tables() {
        int[][] cards = Due.cards(Due.card(BLOW, 0, 9), Due.card(FIGHTER, 0, 9), Due.card(BLOW, 0, 3));
        DeckBalance x = Due.made(9, cards, Due.deck(0), Due.deck(0, 0), Due.deck(), Due.deck(1), Due.deck(2));
        due.is("who is first wins both", x.table(0, 1), 0);
        due.is("two won", x.table(0, 2), 2);
        due.is("two lost", x.table(2, 0), -2);
        due.is("with itself", x.table(1, 1), 0);
        due.is("the blow is ahead of the fighter", x.table(0, 3), 2);
        due.is("won by life", x.table(4, 2), 2);
        DeckBalance odd = oddTables();
        due.is("first wins", odd.play(1, 2), 1);
        due.is("second only draws", odd.play(2, 1), 0);
        due.told("the wall is late", odd, 1, 2, 12, 12, 11, 1, 1);
        due.told("the wall is in time", odd, 2, 1, 12, 12, 12, 1, 1);
        due.is("one won, one drawn", odd.table(1, 2), 1);
        due.is("one lost, one drawn", odd.table(2, 1), -1);
    }

    /** The wall of deck 2 comes in turn 2: too late for the first hit if deck 1 is first. */
    private static DeckBalance oddTables() {
        return Due.made(12, Due.cards(Due.card(FIGHTER, 0, 1), Due.card(WALL, 2, 1)), Due.deck(), Due.deck(0), Due.deck(1));
    }

    private static void rings() {
        DeckBalance x = Due.made(29, Due.cards(Due.card(FIGHTER, 3, 5), Due.card(WALL, 2, 3), Due.card(BLOW, 0, 1)),
            Due.deck(2, 1, 1), Due.deck(0), Due.deck(2, 2, 1));
        due.is("0 beats 1", x.table(0, 1), 2);
        due.is("1 beats 2", x.table(1, 2), 2);
        due.is("2 beats 0", x.table(2, 0), 2);
        due.is("rings()", x.rings(), 1);
        for (int i = 0; i < 3; i++) {
            due.is("ring(0, " + i + ")", x.ring(0, i), i);
        }
        due.is("ring(0, 3)", x.ring(0, 3), -2);
        due.is("ring(0, -1)", x.ring(0, -1), -2);
        due.is("ring(1, 0)", x.ring(1, 0), -2);
        due.is("ring(-1, 0)", x.ring(-1, 0), -2);
        DeckBalance turned = Due.made(29, Due.cards(Due.card(FIGHTER, 3, 5), Due.card(WALL, 2, 3), Due.card(BLOW, 0, 1)),
            Due.deck(0), Due.deck(2, 1, 1), Due.deck(2, 2, 1));
        due.is("turned: 0 beats 2", turned.table(0, 2), 2);
        due.is("turned: b may be above c", turned.ring(0, 0) * 100 + turned.ring(0, 1) * 10 + turned.ring(0, 2), 21);
        x.drop(1, 0);
        due.is("no ring without its card", x.rings(), 0);
        due.is("no such ring", x.ring(0, 0), -2);
        due.is("no decks, no rings", new DeckBalance().rings(), 0);
        due.is("no decks, no ring", new DeckBalance().ring(0, 0), -2);
    }

    /** One deck beats another, that one a third, which is even with the first. */
    private static void noRings() {
        int[][] cards = Due.cards(Due.card(WALL, 0, 1), Due.card(FIGHTER, 2, 1));
        int[][] decks = {Due.deck(1, 1), Due.deck(0), Due.deck(0, 1, 0)};
        int[][] orders = {{0, 1, 2}, {0, 2, 1}, {1, 0, 2}, {1, 2, 0}, {2, 0, 1}, {2, 1, 0}};
        for (int[] o : orders) {
            DeckBalance x = Due.made(39, cards, decks[o[0]], decks[o[1]], decks[o[2]]);
            due.is("an even pair makes no ring", x.rings(), 0);
            due.is("nor can it be asked for", x.ring(0, 0), -2);
        }
    }

    private static void manyRings() {
        int[][] cards = Due.cards(Due.card(BLOW, 3, 7), Due.card(BLOW, 1, 6), Due.card(WALL, 4, 8), Due.card(FIGHTER, 3, 4));
        DeckBalance x = Due.made(19, cards, Due.deck(1, 0), Due.deck(2, 1), Due.deck(0, 2), Due.deck(3), Due.deck(0, 1));
        int n = 0;
        for (int a = 0; a < 5; a++) {
            for (int b = a + 1; b < 5; b++) {
                for (int c = a + 1; c < 5; c++) {
                    if (x.table(a, b) > 0 && x.table(b, c) > 0 && x.table(c, a) > 0) {
                        due.is("ring " + n, x.ring(n, 0) * 100 + x.ring(n, 1) * 10 + x.ring(n, 2), a * 100 + b * 10 + c);
                        n++;
                    }
                }
            }
        }
        due.is("how many", x.rings(), n);
        due.is("four of them", n, 4);
        due.is("not a fifth", x.ring(4, 0), -2);
    }

    private static void wrongDecks() {
        DeckBalance x = Due.made(12, Due.cards(), Due.deck(), Due.deck());
        int[][] wrong = {{-1, 0}, {0, -1}, {2, 0}, {0, 2}, {Due.LEAST, 1}, {1, Integer.MAX_VALUE}};
        for (int[] w : wrong) {
            due.is("play", x.play(w[0], w[1]), -2);
            due.is("told", x.told(w[0], w[1], 0), Due.LEAST);
            due.is("table", x.table(w[0], w[1]), Due.LEAST);
        }
        due.is("told(0, 1, -1)", x.told(0, 1, -1), Due.LEAST);
        due.is("told(0, 1, 5)", x.told(0, 1, 5), Due.LEAST);
    }
}
