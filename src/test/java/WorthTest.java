/** Promises 18 to 20: what a card is worth, idle cards, remedies. */
public final class WorthTest {
    private static final int FIGHTER = 0, BLOW = 1, WALL = 2;
    private static final Due due = new Due();

    public static void main(String[] args) {
        worthOfAFighter();
        onlyTheFirstGoes();
        worthBelowZero();
        noWorthAndYetNotIdle();
        againstItself();
        wrongCards();
        remedyWithoutNeed();
        remedies();
        remedyOfTheGreatestPower();
        remedyInTheLastDeckAlone();
        remedyByItsDefinition();
        wrongShares();
        due.end();
    }

    private static void worthOfAFighter() {
        DeckBalance x = Due.made(12, Due.cards(Due.card(FIGHTER, 1, 2), Due.card(WALL, 5, 9)), Due.deck(0, 1), Due.deck(), Due.deck());
        due.is("it wins against two", x.worth(0, 0), 4);
        due.is("the wall does nothing", x.worth(0, 1), 0);
        due.is("the fighter is not idle", x.idle(0, 0), 0);
        due.is("the wall is idle", x.idle(0, 1), 1);
        x.add(0, 0);
        due.is("a second fighter would do", x.worth(0, 0), 0);
        due.is("so it is idle", x.idle(0, 0), 1);
        due.is("asking changes nothing", x.count(2), 3);
        due.is("nor the order", x.at(0, 0) * 100 + x.at(0, 1) * 10 + x.at(0, 2), 10);
        due.is("nor the standing", x.standing(0), 4);
    }

    private static void onlyTheFirstGoes() {
        DeckBalance x = Due.made(9, Due.cards(Due.card(BLOW, 0, 9), Due.card(WALL, 0, 0)), Due.deck(0, 1, 1, 0), Due.deck(1, 1, 0));
        due.is("the later blow comes in turn 2", x.worth(0, 0), 2);
        due.is("not idle", x.idle(0, 0), 0);
        due.is("the first wall goes", x.worth(0, 1), 0);
        due.is("idle", x.idle(0, 1), 1);
        due.is("without a wall the blow comes in turn 1", x.worth(1, 1), -2);
        due.is("the only blow", x.worth(1, 0), 0);
        due.is("it loses with it and without it", x.idle(1, 0), 1);
    }

    private static void worthBelowZero() {
        DeckBalance x = Due.made(9, Due.cards(Due.card(WALL, 2, 0), Due.card(BLOW, 1, 9), Due.card(WALL, 5, 0)),
            Due.deck(0, 2, 1), Due.deck(2, 2, 1));
        due.is("the wall takes the energy of turn 2", x.table(0, 1), -2);
        due.is("without it the blow comes in turn 1", x.worth(0, 0), -4);
        due.is("not idle", x.idle(0, 0), 0);
    }

    /** With one fighter fewer the wall comes a turn sooner, but no longer do two hit at once. */
    private static void noWorthAndYetNotIdle() {
        int[][] cards = Due.cards(Due.card(WALL, 0, 6), Due.card(FIGHTER, 1, 6));
        DeckBalance x = Due.made(7, cards, Due.deck(1, 1, 0), Due.deck(1, 1), Due.deck(0));
        due.is("who is first wins", x.table(0, 1), 0);
        due.is("two fighters against a wall", x.table(0, 2), 2);
        due.is("one is lost, one won", x.worth(0, 1), 0);
        due.is("yet not idle", x.idle(0, 1), 0);
        x.drop(0, 0);
        due.is("the wall in time", x.table(0, 1), 2);
        due.is("one fighter against a wall", x.table(0, 2), 0);
    }

    private static void againstItself() {
        DeckBalance x = Due.made(12, Due.cards(Due.card(BLOW, 0, 9)), Due.deck(0, 0));
        due.is("its table with itself stays 0", x.worth(0, 0), 0);
        due.is("so the card is idle", x.idle(0, 0), 1);
    }

    private static void wrongCards() {
        DeckBalance x = Due.made(12, Due.cards(Due.card(BLOW, 0, 9), Due.card(BLOW, 0, 9)), Due.deck(0), Due.deck(1));
        int[][] wrong = {{-1, 0}, {2, 0}, {0, -1}, {0, 2}, {Due.LEAST, 0}, {0, Integer.MAX_VALUE}};
        for (int[] w : wrong) {
            due.is("worth of no such", x.worth(w[0], w[1]), Due.LEAST);
            due.is("idle of no such", x.idle(w[0], w[1]), -2);
        }
        due.is("worth of a card not in the deck", x.worth(0, 1), Due.LEAST);
        due.is("idle of a card not in the deck", x.idle(0, 1), -3);
        due.is("BAD goes ahead of NOT", x.idle(2, 1), -2);
    }

    private static void remedyWithoutNeed() {
        DeckBalance x = Due.made(12, Due.cards(), Due.deck());
        due.is("no cards", x.remedy(1, 1), -1);
        x.card(FIGHTER, 0, 5);
        due.is("the lesser power", x.remedy(1, 1), 4);
        x.power(0, 0);
        due.is("no power below 0", x.remedy(1, 1), 1);
        x.power(0, 9);
        due.is("no power above 9", x.remedy(1, 1), 8);
        x.card(FIGHTER, 0, 5);
        due.is("the least card", x.remedy(1, 1), 8);
        due.is("one deck always has all", x.remedy(19, 20), -1);
        due.is("the power is as it was", x.power(0, 9), 9);
    }

    private static void remedies() {
        DeckBalance third = Due.made(29, Due.cards(Due.card(BLOW, 2, 8), Due.card(FIGHTER, 5, 3), Due.card(WALL, 5, 3)),
            Due.deck(2), Due.deck(1, 1), Due.deck(2, 1));
        due.is("remedy(2, 3)", third.remedy(2, 3), 7);
        due.is("remedy(3, 5)", third.remedy(3, 5), 12);
        due.is("remedy(1, 2)", third.remedy(1, 2), 12);
        due.is("remedy(9, 20)", third.remedy(9, 20), -1);
        DeckBalance five = Due.made(7,
            Due.cards(Due.card(BLOW, 2, 1), Due.card(WALL, 0, 8), Due.card(BLOW, 3, 1), Due.card(BLOW, 3, 3), Due.card(FIGHTER, 3, 6)),
            Due.deck(1, 2, 3, 1), Due.deck(3, 0, 0, 4), Due.deck(2, 2, 1, 2, 2, 4), Due.deck(2, 3, 2, 0, 3, 0), Due.deck(0, 0, 4, 4));
        due.is("remedy(1, 5)", five.remedy(1, 5), -1);
        due.is("remedy(1, 4)", five.remedy(1, 4), 17);
        due.is("remedy(1, 3)", five.remedy(1, 3), 0);
        due.shares("remedies change nothing", five, "1/7 1/7 2/7 1/7 2/7");
        five.power(1, 7);
        due.shares("the remedy for 1/4", five, "1/4 1/4 1/4 0/1 1/4");
    }

    /** The wall must be 9 to hold off the 9 of deck 2; with 8 deck 2 beats both. */
    private static void remedyOfTheGreatestPower() {
        DeckBalance x = Due.made(17, Due.cards(Due.card(FIGHTER, 0, 3), Due.card(WALL, 2, 7), Due.card(FIGHTER, 2, 9)),
            Due.deck(1), Due.deck(0), Due.deck(2));
        due.shares("deck 2 beats both", x, "0/1 0/1 1/1");
        due.is("a wall of 9", x.remedy(2, 3), 19);
        x.power(1, 9);
        due.shares("with that wall", x, "2/3 0/1 1/3");
    }

    /** A blow of 1 is enough for deck 2 to beat deck 0, which else is even with both. */
    private static void remedyInTheLastDeckAlone() {
        DeckBalance x = Due.made(24, Due.cards(Due.card(FIGHTER, 3, 4), Due.card(WALL, 3, 6), Due.card(BLOW, 1, 0)),
            Due.deck(1), Due.deck(0), Due.deck(2));
        due.shares("deck 0 is even with both", x, "1/1 0/1 0/1");
        due.is("a blow of 1", x.remedy(2, 3), 21);
        due.is("no remedy for less than 1/2", x.remedy(9, 20), -1);
        x.power(2, 1);
        due.shares("with that blow", x, "1/2 1/2 0/1");
    }

    private static void remedyByItsDefinition() {
        DeckBalance x = Due.made(39, Due.cards(Due.card(BLOW, 4, 3), Due.card(WALL, 1, 3), Due.card(FIGHTER, 0, 3), Due.card(WALL, 2, 6)),
            Due.deck(2, 0), Due.deck(3, 0, 1), Due.deck(2, 3));
        for (int v = 1; v <= 20; v++) {
            for (int u = 1; u <= v; u++) {
                due.is("remedy(" + u + ", " + v + ")", x.remedy(u, v), sought(x, u, v));
            }
        }
    }

    private static int sought(DeckBalance x, int u, int v) {
        for (int change = 1; change <= 9; change++) {
            for (int card = 0; card < x.count(0); card++) {
                int was = x.power(card, 0);
                x.power(card, was);
                for (int power : new int[] {was - change, was + change}) {
                    if (power >= 0 && power <= 9 && isWithin(x, u, v, card, power)) {
                        return 10 * card + power;
                    }
                }
            }
        }
        return -1;
    }

    private static boolean isWithin(DeckBalance x, int u, int v, int card, int power) {
        int was = x.power(card, power);
        boolean isGood = true;
        for (int d = 0; d < x.count(1); d++) {
            isGood &= x.share(d, 0) * v <= u * x.share(d, 1);
        }
        x.power(card, was);
        return isGood;
    }

    private static void wrongShares() {
        DeckBalance x = Due.made(12, Due.cards(Due.card(FIGHTER, 0, 5)), Due.deck());
        int[][] wrong = {{0, 1}, {2, 1}, {1, 0}, {1, 21}, {-1, 5}, {21, 20}, {1, -1}, {Due.LEAST, 20}, {1, Due.LEAST}};
        for (int[] w : wrong) {
            due.is("remedy(" + w[0] + ", " + w[1] + ")", x.remedy(w[0], w[1]), -2);
            due.is("BAD goes ahead of NOT", new DeckBalance().remedy(w[0], w[1]), -2);
        }
        due.is("without decks", new DeckBalance().remedy(1, 1), -3);
        due.is("remedy(20, 20)", x.remedy(20, 20), 4);
        due.is("remedy(1, 20)", x.remedy(1, 20), -1);
    }
}
