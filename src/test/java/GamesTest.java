/** Promises 10 and 11: how games go. What a test quotes is the sentence of the document that it would see broken. */
public final class GamesTest {
    private static final int FIGHTER = 0, BLOW = 1, WALL = 2;
    private static final int[] NO_CARDS = Due.deck();
    private static final int[] TEN = Due.deck(0, 0, 0, 0, 0, 0, 0, 0, 0, 0);
    private static final Due due = new Due();

    public static void main(String[] args) {
        emptyDecks();
        everyGameBeginsAnew();
        emptyHandAtFirst();
        leastAndGreatestLife();
        firstAThenB();
        drawing();
        asFarAsTheDeckGoes();
        inTheirOrder();
        fightersHitAheadOfPlaying();
        fightersLessWalls();
        onlyOwnFightersAndTheOthersWalls();
        energyIsTheTurn();
        energyIsSixAtMost();
        energyIsNotKept();
        costZeroWithoutEnergy();
        greatestCost();
        greatestPower();
        leastCard();
        untilNoneCanBePlayed();
        blowsHarmAtOnce();
        lifeZeroOrLess();
        lifeOneGoesOn();
        overBehindTwo();
        overBehindABlow();
        moreLifeBehindTurn12();
        asMuchLifeBehindTurn12();
        overInTurn12();
        againstItself();
        wrongDecks();
        wrongWhat();
        due.end();
    }

    private static DeckBalance againstNone(int life, int[][] cards, int... deck) {
        return Due.made(life, cards, deck, NO_CARDS);
    }

    /** "endless ones as draws", told's "(12)". */
    private static void emptyDecks() {
        DeckBalance x = Due.made(12, Due.cards(), NO_CARDS, NO_CARDS);
        due.is("empty decks draw", x.play(0, 1), 0);
        due.is("an empty deck and itself", x.play(0, 0), 0);
        due.told("empty", x, 0, 1, 12, 12, 12, 0, 0);
    }

    /** "each has LIFE .., an empty HAND and FIELD". */
    private static void everyGameBeginsAnew() {
        DeckBalance x = Due.made(12, Due.cards(Due.card(FIGHTER, 0, 4), Due.card(WALL, 5, 9)), Due.deck(0, 1), NO_CARDS);
        for (int k = 0; k < 3; k++) {
            due.told("again", x, 0, 1, 4, 12, 0, 1, 0);
            due.told("no field, no hand is left of it", x, 1, 1, 12, 12, 12, 0, 0);
            due.told("nor of the other one", x, 1, 0, 4, 0, 12, 0, 1);
        }
    }

    /** "an empty HAND": of ten cards of cost 5 eight are played in turns 5 to 12, and two are left. */
    private static void emptyHandAtFirst() {
        DeckBalance x = againstNone(40, Due.cards(Due.card(BLOW, 5, 1), Due.card(BLOW, 5, 9)), TEN);
        for (int k = 0; k < 12; k++) {
            due.told("eight are played", x, 0, 1, 12, 40, 32, 8, 0);
            x.life(39);
            due.told("eight are played behind a change", x, 0, 1, 12, 39, 31, 8, 0);
            due.is("and without one of them", x.worth(0, 0), 0);
            x.life(40);
        }
        for (int i = 9; i >= 0; i--) {
            x.drop(0, i);
        }
        due.told("nothing is left in the hand", x, 0, 1, 12, 40, 40, 0, 0);
        due.told("a deck that never had a card has none", x, 1, 1, 12, 40, 40, 0, 0);
    }

    /** "LIFE (5 .. 40; 12 at first)". */
    private static void leastAndGreatestLife() {
        DeckBalance x = new DeckBalance();
        x.deck();
        due.told("12 at first", x, 0, 0, 12, 12, 12, 0, 0);
        x.life(5);
        due.told("the least", x, 0, 0, 12, 5, 5, 0, 0);
        x.life(40);
        due.told("the greatest", x, 0, 0, 12, 40, 40, 0, 0);
        x.life(41);
        due.told("not a greater one", x, 0, 0, 12, 40, 40, 0, 0);
    }

    /** "TURNS are numbered from 1; in each first a, then b moves". */
    private static void firstAThenB() {
        DeckBalance x = Due.made(9, Due.cards(Due.card(BLOW, 0, 9), Due.card(BLOW, 1, 9), Due.card(BLOW, 2, 9)),
            Due.deck(0), Due.deck(1), Due.deck(2));
        due.is("a is first", x.play(0, 1), 1);
        due.is("b is first", x.play(1, 0), 1);
        due.told("b does not come to its move", x, 1, 0, 1, 9, 0, 1, 0);
        due.is("b moves in turn 1 too", x.play(2, 0), -1);
        due.told("b moves in turn 1 too", x, 2, 0, 1, 0, 9, 0, 1);
    }

    /** "one draws: in TURN 1 two CARDS, else one". */
    private static void drawing() {
        DeckBalance x = againstNone(5, Due.cards(Due.card(BLOW, 0, 1)), TEN);
        due.told("two, then one a turn", x, 0, 1, 4, 5, 0, 5, 0);
        x.life(10);
        due.told("the tenth in turn 9", x, 0, 1, 9, 10, 0, 10, 0);
        due.told("b too draws two, then one a turn", x, 1, 0, 9, 0, 10, 0, 10);
        DeckBalance fives = againstNone(10, Due.cards(Due.card(BLOW, 0, 5)), 0, 0, 0);
        due.told("two in turn 1", fives, 0, 1, 1, 10, 0, 2, 0);
        fives.life(11);
        due.told("the third in turn 2", fives, 0, 1, 2, 11, -4, 3, 0);
    }

    /** "(as far as the DECK goes)". */
    private static void asFarAsTheDeckGoes() {
        int[][] blow = Due.cards(Due.card(BLOW, 0, 1));
        due.told("one card", againstNone(12, blow, 0), 0, 1, 12, 12, 11, 1, 0);
        due.told("two cards", againstNone(12, blow, 0, 0), 0, 1, 12, 12, 10, 2, 0);
        due.told("three cards", againstNone(12, blow, 0, 0, 0), 0, 1, 12, 12, 9, 3, 0);
        due.told("ten cards", againstNone(12, blow, TEN), 0, 1, 12, 12, 2, 10, 0);
        due.told("ten cards as second", againstNone(12, blow, TEN), 1, 0, 12, 2, 12, 0, 10);
    }

    /** "drawn in their order". */
    private static void inTheirOrder() {
        for (int place = 0; place < 10; place++) {
            int[] deck = Due.deck(1, 1, 1, 1, 1, 1, 1, 1, 1, 1);
            deck[place] = 0;
            DeckBalance x = againstNone(9, Due.cards(Due.card(BLOW, 0, 9), Due.card(WALL, 0, 0)), deck);
            due.is("the blow at place " + place, x.told(0, 1, 0), place < 2 ? 1 : place);
        }
    }

    /** The order of 2 and 3: a FIGHTER hits from the next TURN on, a WALL is there for the other one's next MOVE. */
    private static void fightersHitAheadOfPlaying() {
        DeckBalance x = againstNone(12, Due.cards(Due.card(FIGHTER, 0, 4)), 0);
        due.told("harm in turns 2, 3, 4", x, 0, 1, 4, 12, 0, 1, 0);
        due.told("also as second", x, 1, 0, 4, 0, 12, 0, 1);
        DeckBalance walls = Due.made(12, Due.cards(Due.card(FIGHTER, 0, 1), Due.card(WALL, 2, 1)), Due.deck(0), Due.deck(1));
        due.told("the wall of turn 2 is late for the hit of turn 2", walls, 0, 1, 12, 12, 11, 1, 1);
        due.told("if its deck is first it is in time", walls, 1, 0, 12, 12, 12, 1, 1);
    }

    /** "less what the WALLS on the other one's FIELD have together, if it is above 0". */
    private static void fightersLessWalls() {
        int[][] cards = Due.cards(Due.card(FIGHTER, 0, 3), Due.card(WALL, 0, 2), Due.card(WALL, 0, 3), Due.card(WALL, 0, 9));
        DeckBalance x = Due.made(12, cards, Due.deck(0), Due.deck(1), Due.deck(0, 0), Due.deck(1, 1), Due.deck(2));
        due.told("3 less 2", x, 0, 1, 12, 12, 1, 1, 1);
        due.told("3 less 3 is nothing", x, 0, 4, 12, 12, 12, 1, 1);
        due.told("3 less 4 is no gain", x, 0, 3, 12, 12, 12, 1, 2);
        due.told("6 less 2", x, 2, 1, 4, 12, 0, 2, 1);
        due.told("6 less 3", x, 2, 4, 5, 12, 0, 2, 1);
        due.told("6 less 4", x, 2, 3, 7, 12, 0, 2, 2);
        DeckBalance far = Due.made(12, cards, Due.deck(0), Due.deck(3, 3));
        due.told("3 less 18", far, 0, 1, 12, 12, 12, 1, 2);
    }

    /** "What the FIGHTERS on one's FIELD have .., less what the WALLS on the other one's FIELD have". */
    private static void onlyOwnFightersAndTheOthersWalls() {
        DeckBalance x = Due.made(12, Due.cards(Due.card(FIGHTER, 0, 3), Due.card(WALL, 0, 9), Due.card(FIGHTER, 0, 1)),
            Due.deck(0, 1), Due.deck(2), Due.deck(1, 1));
        due.told("neither one's own wall nor the other one's fighter is in the way", x, 0, 1, 5, 12, 0, 2, 1);
        due.told("the same as second", x, 1, 0, 5, 0, 12, 1, 2);
        due.told("walls do no harm", x, 2, 2, 12, 12, 12, 2, 2);
    }

    /** "ENERGY is t" and "the greatest COST not above the ENERGY that is left". */
    private static void energyIsTheTurn() {
        for (int cost = 0; cost <= 5; cost++) {
            DeckBalance x = againstNone(9, Due.cards(Due.card(BLOW, cost, 9)), 0);
            int turn = Math.max(1, cost);
            due.told("cost " + cost, x, 0, 1, turn, 9, 0, 1, 0);
            due.told("cost " + cost + " as second", x, 1, 0, turn, 0, 9, 0, 1);
        }
    }

    /** "6 at most". */
    private static void energyIsSixAtMost() {
        DeckBalance four = againstNone(40, Due.cards(Due.card(BLOW, 4, 1)), TEN);
        due.told("cost 4 never twice a turn, up to turn 12", four, 0, 1, 12, 40, 31, 9, 0);
        DeckBalance seven = againstNone(5, Due.cards(Due.card(BLOW, 4, 1), Due.card(BLOW, 3, 1)), 0, 0, 0, 0, 0, 1, 1, 1, 1, 1);
        due.told("4 and 3 never in one turn", seven, 0, 1, 8, 5, 0, 5, 0);
        DeckBalance three = againstNone(5, Due.cards(Due.card(BLOW, 3, 1)), TEN);
        due.told("cost 3 twice in turn 6", three, 0, 1, 6, 5, 0, 5, 0);
        three.life(7);
        due.told("and in turn 7", three, 0, 1, 7, 7, 0, 7, 0);
    }

    /** "ENERGY is less by its COST", and it is t anew in each TURN. */
    private static void energyIsNotKept() {
        DeckBalance x = againstNone(40, Due.cards(Due.card(BLOW, 2, 9), Due.card(BLOW, 1, 5)), 0, 1, 1);
        due.told("all three are played", x, 0, 1, 12, 40, 21, 3, 0);
        x.life(19);
        due.told("the 1 that is left in turn 3 is enough for cost 1", x, 0, 1, 3, 19, 0, 3, 0);
        DeckBalance late = againstNone(9, Due.cards(Due.card(BLOW, 5, 9)), 0);
        due.told("nothing is saved up for cost 5", late, 0, 1, 5, 9, 0, 1, 0);
    }

    /** "COST not above the ENERGY that is left": also when none is left. */
    private static void costZeroWithoutEnergy() {
        DeckBalance x = againstNone(5, Due.cards(Due.card(BLOW, 0, 5), Due.card(BLOW, 1, 0)), 1, 0);
        due.told("cost 0 with no energy left", x, 0, 1, 1, 5, 0, 2, 0);
    }

    /** "always the one with the greatest COST". */
    private static void greatestCost() {
        DeckBalance x = againstNone(9, Due.cards(Due.card(BLOW, 1, 9), Due.card(WALL, 2, 0), Due.card(WALL, 5, 0)), 1, 2, 0);
        due.told("2 is ahead of 1 in spite of its power", x, 0, 1, 3, 9, 0, 2, 0);
    }

    /** "of several that with the greatest POWER". */
    private static void greatestPower() {
        DeckBalance x = againstNone(9, Due.cards(Due.card(BLOW, 2, 3), Due.card(BLOW, 2, 9)), 0, 1);
        due.told("9 is ahead of 3", x, 0, 1, 2, 9, 0, 1, 0);
        x.power(0, 9);
        x.power(1, 3);
        due.told("by the power of now", x, 0, 1, 2, 9, 0, 1, 0);
        DeckBalance near = againstNone(9, Due.cards(Due.card(WALL, 2, 8), Due.card(BLOW, 2, 9)), 0, 1);
        due.told("9 is ahead of 8, of whatever sort", near, 0, 1, 2, 9, 0, 1, 0);
    }

    /** "of several the least CARD". */
    private static void leastCard() {
        DeckBalance least = againstNone(10, Due.cards(Due.card(FIGHTER, 2, 5), Due.card(WALL, 2, 5)), 1, 0);
        due.told("the least card", least, 0, 1, 4, 10, 0, 2, 0);
        DeckBalance greatest = againstNone(10, Due.cards(Due.card(WALL, 2, 5), Due.card(FIGHTER, 2, 5)), 1, 0);
        due.told("not the first drawn", greatest, 0, 1, 5, 10, 0, 2, 0);
    }

    /** "until none can be played": of cost 2 one in turns 2 and 3 each, two in turns 4 and 5 each. */
    private static void untilNoneCanBePlayed() {
        DeckBalance x = againstNone(5, Due.cards(Due.card(BLOW, 2, 1)), TEN);
        due.told("the fifth in turn 5", x, 0, 1, 5, 5, 0, 5, 0);
        x.life(6);
        due.told("and the sixth", x, 0, 1, 5, 6, 0, 6, 0);
        x.life(7);
        due.told("then none is in the hand till turn 6", x, 0, 1, 6, 7, 0, 7, 0);
    }

    /** "by a BLOW the other one loses its POWER as LIFE at once": walls are not in its way. */
    private static void blowsHarmAtOnce() {
        DeckBalance x = Due.made(12, Due.cards(Due.card(BLOW, 0, 3), Due.card(WALL, 0, 9), Due.card(BLOW, 0, 0)),
            Due.deck(0), Due.deck(1), Due.deck(2));
        due.told("a blow of 3", x, 0, 1, 12, 12, 9, 1, 1);
        due.told("it is gone behind it", x, 0, 2, 12, 12, 9, 1, 1);
        due.told("a blow of 0", x, 2, 1, 12, 12, 12, 1, 1);
    }

    /** "Whoever has LIFE 0 or less then has lost". */
    private static void lifeZeroOrLess() {
        DeckBalance blow = againstNone(9, Due.cards(Due.card(BLOW, 0, 9)), 0);
        due.told("0 by a blow", blow, 0, 1, 1, 9, 0, 1, 0);
        blow.life(8);
        due.told("less by a blow", blow, 0, 1, 1, 8, -1, 1, 0);
        due.is("won", blow.play(0, 1), 1);
        due.is("lost", blow.play(1, 0), -1);
        DeckBalance fighter = againstNone(10, Due.cards(Due.card(FIGHTER, 0, 5)), 0);
        due.told("0 by a fighter", fighter, 0, 1, 3, 10, 0, 1, 0);
        fighter.life(9);
        due.told("less by a fighter", fighter, 0, 1, 3, 9, -1, 1, 0);
        due.is("won", fighter.play(0, 1), 1);
        due.is("lost", fighter.play(1, 0), -1);
    }

    private static void lifeOneGoesOn() {
        DeckBalance blow = againstNone(10, Due.cards(Due.card(BLOW, 0, 9)), 0);
        due.told("1 by a blow is not lost", blow, 0, 1, 12, 10, 1, 1, 0);
        DeckBalance fighter = againstNone(11, Due.cards(Due.card(FIGHTER, 0, 5)), 0);
        due.told("1 by a fighter is not lost", fighter, 0, 1, 4, 11, -4, 1, 0);
    }

    /** "the GAME is over (also within a MOVE: at once, behind 2". */
    private static void overBehindTwo() {
        DeckBalance x = Due.made(9, Due.cards(Due.card(FIGHTER, 0, 9), Due.card(WALL, 0, 0)), Due.deck(0, 1, 1), Due.deck(1, 1, 1));
        due.told("the card drawn in turn 2 is not played", x, 0, 1, 2, 9, 0, 2, 2);
        due.told("as second", x, 1, 0, 2, 0, 9, 3, 2);
    }

    /** ".. or behind a BLOW)". */
    private static void overBehindABlow() {
        DeckBalance x = Due.made(5, Due.cards(Due.card(BLOW, 0, 9), Due.card(BLOW, 0, 5)), Due.deck(0, 0), Due.deck(1, 1), NO_CARDS);
        due.told("the second blow is not played", x, 0, 1, 1, 5, -4, 1, 0);
        due.told("life 0 is lost", x, 1, 0, 1, 5, 0, 1, 0);
        due.told("nor b's second blow", x, 2, 0, 1, -4, 5, 0, 1);
        x.life(10);
        due.told("two blows are needed", x, 0, 1, 1, 10, -8, 2, 0);
        due.told("b does not move behind a's last blow", x, 1, 0, 1, 10, 0, 2, 0);
        x.life(11);
        due.is("b's last blow", x.play(1, 0), -1);
        due.told("b's last blow", x, 1, 0, 1, -7, 1, 2, 2);
    }

    /** "Behind TURN 12 the GAME is over: the one with more LIFE has won". */
    private static void moreLifeBehindTurn12() {
        DeckBalance x = Due.made(40, Due.cards(Due.card(FIGHTER, 0, 1), Due.card(BLOW, 0, 1)), Due.deck(0), NO_CARDS, Due.deck(1));
        due.is("more life wins", x.play(0, 1), 1);
        due.told("eleven times 1", x, 0, 1, 12, 40, 29, 1, 0);
        due.is("less life loses", x.play(1, 0), -1);
        due.told("eleven times 1 as second", x, 1, 0, 12, 29, 40, 0, 1);
        due.is("one more is enough", x.play(2, 1), 1);
        due.is("one less is enough", x.play(1, 2), -1);
        due.is("the lesser harm", x.play(2, 0), -1);
        x.life(12);
        due.told("there is no turn 13", x, 0, 1, 12, 12, 1, 1, 0);
    }

    /** "with as much it is a DRAW". */
    private static void asMuchLifeBehindTurn12() {
        DeckBalance x = Due.made(40, Due.cards(Due.card(FIGHTER, 0, 1), Due.card(BLOW, 0, 9), Due.card(BLOW, 0, 2)),
            Due.deck(0), Due.deck(1, 2));
        due.is("as much, and less than at first", x.play(0, 0), 0);
        due.told("as much", x, 0, 0, 12, 29, 29, 1, 1);
        due.is("as much by other cards", x.play(0, 1), 0);
        due.told("as much by other cards", x, 0, 1, 12, 29, 29, 1, 2);
    }

    /** In TURN 12 too a GAME is over at once. */
    private static void overInTurn12() {
        DeckBalance x = againstNone(11, Due.cards(Due.card(FIGHTER, 0, 1)), 0);
        due.told("the last hit in turn 12", x, 0, 1, 12, 11, 0, 1, 0);
        due.told("as second", x, 1, 0, 12, 0, 11, 0, 1);
        due.is("a's hit in turn 12 comes first", x.play(0, 0), 1);
        due.told("b's does not come", x, 0, 0, 12, 1, 0, 1, 1);
    }

    private static void againstItself() {
        DeckBalance x = againstNone(12, Due.cards(Due.card(FIGHTER, 0, 4)), 0);
        due.is("who is first wins", x.play(0, 0), 1);
        due.told("each has its own hand and field", x, 0, 0, 4, 4, 0, 1, 1);
    }

    /** play's "-2: BAD." and told's "The least int: BAD." (no such DECK). */
    private static void wrongDecks() {
        DeckBalance x = Due.made(12, Due.cards(), NO_CARDS, NO_CARDS);
        for (int d : Due.outside(0, 1)) {
            due.is("play(" + d + ", 0)", x.play(d, 0), -2);
            due.is("play(1, " + d + ")", x.play(1, d), -2);
            due.is("play(" + d + ", " + d + ")", x.play(d, d), -2);
            due.is("told(" + d + ", 0, 0)", x.told(d, 0, 0), Due.LEAST);
            due.is("told(1, " + d + ", 0)", x.told(1, d, 0), Due.LEAST);
        }
        due.is("play without decks", new DeckBalance().play(0, 0), -2);
        due.is("told without decks", new DeckBalance().told(0, 0, 0), Due.LEAST);
    }

    /** told's "The least int: BAD." (a number out of its bounds). */
    private static void wrongWhat() {
        DeckBalance x = Due.made(12, Due.cards(), NO_CARDS, NO_CARDS);
        for (int what : Due.outside(0, 4)) {
            due.is("told(0, 1, " + what + ")", x.told(0, 1, what), Due.LEAST);
        }
    }
}
