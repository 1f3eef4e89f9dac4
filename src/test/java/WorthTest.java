/**
 * Promises 18 and 19: what a card is worth, idle cards.
 * What a test quotes is the sentence of the document that it would see broken.
 */
public final class WorthTest {
    private static final int FIGHTER = 0, BLOW = 1, WALL = 2;
    private static final Due due = new Due();

    public static void main(String[] args) {
        worthOfAFighter();
        onlyTheFirstGoes();
        theOnlyCard();
        tenOfOneCard();
        theLastPlaceOfAFullDeck();
        worthBelowZero();
        leastAndGreatestWorth();
        noWorthAndYetNotIdle();
        idleAgainstEachDeck();
        againstItself();
        againstADeckAlike();
        askingChangesNothing();
        noSuchDeckOrCard();
        cardNotInTheDeck();
        due.end();
    }

    /** "its STANDING, less what it would be without". */
    private static void worthOfAFighter() {
        DeckBalance x = Due.made(12, Due.cards(Due.card(FIGHTER, 1, 2), Due.card(WALL, 5, 9)), Due.deck(0, 1), Due.deck(), Due.deck());
        due.is("it wins against two", x.worth(0, 0), 4);
        due.is("the wall does nothing", x.worth(0, 1), 0);
        due.is("the fighter is not idle", x.idle(0, 0), 0);
        due.is("the wall is idle", x.idle(0, 1), 1);
        x.add(0, 0);
        due.is("a second fighter would do", x.worth(0, 0), 0);
        due.is("so it is idle", x.idle(0, 0), 1);
    }

    /** "without the first of that CARD in it". */
    private static void onlyTheFirstGoes() {
        DeckBalance x = Due.made(9, Due.cards(Due.card(BLOW, 0, 9), Due.card(WALL, 0, 0)), Due.deck(0, 1, 1, 0), Due.deck(1, 1, 0));
        due.is("the later blow comes in turn 2", x.worth(0, 0), 2);
        due.is("not idle", x.idle(0, 0), 0);
        due.is("the first wall goes", x.worth(0, 1), 0);
        due.is("idle", x.idle(0, 1), 1);
        due.is("without a wall the blow comes in turn 1", x.worth(1, 1), -2);
        due.is("the only blow", x.worth(1, 0), 0);
        due.is("it loses with it and without it", x.idle(1, 0), 1);
    }

    private static void theOnlyCard() {
        DeckBalance x = Due.made(12, Due.cards(Due.card(BLOW, 0, 1), Due.card(BLOW, 0, 0)), Due.deck(0), Due.deck(), Due.deck(1));
        due.is("without it the deck is empty", x.worth(0, 0), 4);
        due.is("not idle", x.idle(0, 0), 0);
        due.is("an empty deck would do as well", x.worth(2, 1), 0);
        due.is("idle", x.idle(2, 1), 1);
    }

    private static void tenOfOneCard() {
        int[] ten = Due.deck(0, 0, 0, 0, 0, 0, 0, 0, 0, 0);
        DeckBalance x = Due.made(12, Due.cards(Due.card(BLOW, 0, 1)), ten, Due.deck(0, 0, 0, 0, 0, 0, 0, 0, 0));
        due.is("ten are more than nine", x.table(0, 1), 2);
        due.is("nine are left", x.worth(0, 0), 2);
        due.is("not idle", x.idle(0, 0), 0);
        due.is("eight lose too", x.worth(1, 0), 0);
        due.is("idle", x.idle(1, 0), 1);
    }

    private static void theLastPlaceOfAFullDeck() {
        int[] nine = Due.deck(0, 0, 0, 0, 0, 0, 0, 0, 0, 1);
        DeckBalance x = Due.made(12, Due.cards(Due.card(WALL, 0, 0), Due.card(BLOW, 0, 1)), nine, Due.deck());
        due.is("the blow at place 9", x.worth(0, 1), 2);
        due.is("not idle", x.idle(0, 1), 0);
        due.is("a wall ahead of it", x.worth(0, 0), 0);
        due.is("idle", x.idle(0, 0), 1);
    }

    private static void worthBelowZero() {
        DeckBalance x = Due.made(9, Due.cards(Due.card(WALL, 2, 0), Due.card(BLOW, 1, 9), Due.card(WALL, 5, 0)),
            Due.deck(0, 2, 1), Due.deck(2, 2, 1));
        due.is("the wall takes the energy of turn 2", x.table(0, 1), -2);
        due.is("without it the blow comes in turn 1", x.worth(0, 0), -4);
        due.is("not idle", x.idle(0, 0), 0);
    }

    private static void leastAndGreatestWorth() {
        DeckBalance most = Due.made(9, Due.cards(Due.card(BLOW, 0, 9), Due.card(BLOW, 0, 1)),
            Due.deck(0), Due.deck(1), Due.deck(1), Due.deck(1), Due.deck(1));
        due.is("from four lost to four won", most.worth(0, 0), 16);
        int[] other = Due.deck(2, 2, 1);
        DeckBalance least = Due.made(9, Due.cards(Due.card(WALL, 2, 0), Due.card(BLOW, 1, 9), Due.card(WALL, 5, 0)),
            other, other, other, other, Due.deck(0, 2, 1));
        due.is("from four won to four lost", least.worth(4, 0), -16);
    }

    /** With one fighter fewer the wall comes a turn sooner, but no longer do two hit at once. */
    private static void noWorthAndYetNotIdle() {
        int[][] cards = Due.cards(Due.card(WALL, 0, 6), Due.card(FIGHTER, 1, 6));
        DeckBalance x = Due.made(7, cards, Due.deck(1, 1, 0), Due.deck(1, 1), Due.deck(0));
        due.is("who is first wins", x.table(0, 1), 0);
        due.is("two fighters against a wall", x.table(0, 2), 2);
        due.is("one is lost, one won", x.worth(0, 1), 0);
        due.is("yet not idle", x.idle(0, 1), 0);
        x.drop(0, 0);
        due.is("the wall in time", x.table(0, 1), 2);
        due.is("one fighter against a wall", x.table(0, 2), 0);
    }

    /** "its TABLES against each DECK would be the same": one other is enough, wherever it stands. */
    private static void idleAgainstEachDeck() {
        int[][] cards = Due.cards(Due.card(BLOW, 0, 9), Due.card(BLOW, 0, 1));
        for (int asked = 0; asked < 5; asked++) {
            for (int empty = 0; empty < 5; empty++) {
                int[][] decks = {Due.deck(0), Due.deck(0), Due.deck(0), Due.deck(0), Due.deck(0)};
                decks[empty] = Due.deck();
                decks[asked] = Due.deck(1);
                DeckBalance x = Due.made(9, cards, decks);
                String of = "deck " + asked + ", the empty one is " + empty;
                due.is("idle of " + of, x.idle(asked, 1), asked == empty ? 1 : 0);
                due.is("worth of " + of, x.worth(asked, 1), asked == empty ? 0 : 2);
            }
        }
    }

    private static void againstItself() {
        DeckBalance x = Due.made(12, Due.cards(Due.card(BLOW, 0, 9)), Due.deck(0, 0));
        due.is("its table with itself stays 0", x.worth(0, 0), 0);
        due.is("so the card is idle", x.idle(0, 0), 1);
    }

    private static void againstADeckAlike() {
        DeckBalance x = Due.made(9, Due.cards(Due.card(BLOW, 0, 9)), Due.deck(0), Due.deck(0));
        due.is("the other deck keeps its card", x.worth(0, 0), 2);
        due.is("not idle", x.idle(0, 0), 0);
        due.is("and so for the other", x.worth(1, 0), 2);
    }

    private static void askingChangesNothing() {
        DeckBalance x = Due.made(12, Due.cards(Due.card(FIGHTER, 1, 2), Due.card(WALL, 5, 9)), Due.deck(0, 1, 0), Due.deck(), Due.deck());
        x.worth(0, 0);
        x.idle(0, 1);
        due.is("how many", x.count(2), 3);
        due.is("their order", x.at(0, 0) * 100 + x.at(0, 1) * 10 + x.at(0, 2), 10);
        due.is("the standing", x.standing(0), 4);
        due.told("a game", x, 0, 1, 5, 12, -2, 2, 0);
    }

    /** worth's "The least int: BAD", idle's "BAD" (no such CARD, DECK). */
    private static void noSuchDeckOrCard() {
        DeckBalance x = Due.made(12, Due.cards(Due.card(BLOW, 0, 9), Due.card(BLOW, 0, 9)), Due.deck(0), Due.deck(1));
        for (int deck : Due.outside(0, 1)) {
            due.is("worth(" + deck + ", 0)", x.worth(deck, 0), Due.LEAST);
            due.is("idle(" + deck + ", 0)", x.idle(deck, 0), -2);
        }
        for (int card : Due.outside(0, 1)) {
            due.is("worth(0, " + card + ")", x.worth(0, card), Due.LEAST);
            due.is("BAD goes ahead of NOT: idle(0, " + card + ")", x.idle(0, card), -2);
        }
        due.is("worth without decks", new DeckBalance().worth(0, 0), Due.LEAST);
        due.is("idle without decks", new DeckBalance().idle(0, 0), -2);
    }

    /** worth's "also the DECK has no such CARD", idle's "NOT: it has no such CARD". */
    private static void cardNotInTheDeck() {
        DeckBalance x = Due.made(12, Due.cards(Due.card(BLOW, 0, 9), Due.card(BLOW, 0, 9)), Due.deck(0), Due.deck(1), Due.deck());
        due.is("worth of a card in another deck", x.worth(0, 1), Due.LEAST);
        due.is("idle of a card in another deck", x.idle(0, 1), -3);
        due.is("worth in an empty deck", x.worth(2, 0), Due.LEAST);
        due.is("idle in an empty deck", x.idle(2, 0), -3);
        x.drop(0, 0);
        due.is("worth of a card that has gone", x.worth(0, 0), Due.LEAST);
        due.is("idle of a card that has gone", x.idle(0, 0), -3);
    }
}
