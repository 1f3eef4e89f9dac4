/** Promise 20: remedies. What a test quotes is the sentence of the document that it would see broken. */
public final class RemedyTest {
    private static final int FIGHTER = 0, BLOW = 1, WALL = 2;
    private static final Due due = new Due();

    public static void main(String[] args) {
        anotherPowerThanItHas();
        powersFromZeroToNine();
        leastChange();
        leastCardOfSeveral();
        lesserPowerOfSeveral();
        greatestChange();
        toPowerZero();
        toPowerNine();
        justTheShare();
        aCardInTheLastDeckAlone();
        aRemedyThatTurnsEveryTable();
        theLastOfTwelveCards();
        noneWithoutCards();
        noneForLessThanAnEvenShare();
        remediesOfFiveDecks();
        remedyByItsDefinition();
        outOfBounds();
        greatestAndLeastShare();
        withoutDecks();
        due.end();
    }

    /** "another one than it has": also where nothing needs to change. */
    private static void anotherPowerThanItHas() {
        DeckBalance x = Due.made(12, Due.cards(Due.card(FIGHTER, 0, 5)), Due.deck());
        due.shares("one deck has all, as 1 / 1 allows", x, "1/1");
        due.is("not 5", x.remedy(1, 1), 4);
        due.is("the power is as it was", x.power(0, 5), 5);
    }

    /** "POWER (0 .. 9". */
    private static void powersFromZeroToNine() {
        DeckBalance x = Due.made(12, Due.cards(Due.card(FIGHTER, 0, 0)), Due.deck());
        due.is("no power below 0", x.remedy(1, 1), 1);
        x.power(0, 9);
        due.is("no power above 9", x.remedy(1, 1), 8);
        x.power(0, 1);
        due.is("0 is one", x.remedy(1, 1), 0);
        x.power(0, 8);
        due.is("7 is less than 9", x.remedy(1, 1), 7);
    }

    /** "that with the least change of POWER": also if a lesser CARD needs more. Card 0 with 1, card 1 with 2 or 3 would do. */
    private static void leastChange() {
        DeckBalance x = Due.made(8, Due.cards(Due.card(WALL, 0, 3), Due.card(FIGHTER, 2, 1)), Due.deck(0), Due.deck(1, 1), Due.deck(1, 0));
        due.is("card 1 from 1 to 2", x.remedy(1, 2), 12);
        due.is("card 0 from 3 to 1 would do", isWithin(x, 1, 2, 0, 1) ? 1 : 0, 1);
        due.is("from 3 to 2 would not", isWithin(x, 1, 2, 0, 2) ? 1 : 0, 0);
    }

    /** "of several the least CARD": ahead of the lesser POWER. */
    private static void leastCardOfSeveral() {
        DeckBalance x = Due.made(11, Due.cards(Due.card(FIGHTER, 0, 3), Due.card(WALL, 0, 5)), Due.deck(1), Due.deck(0, 0), Due.deck(1, 0));
        due.is("card 0 from 3 to 4", x.remedy(1, 2), 4);
        due.is("card 1 from 5 to 4 would do", isWithin(x, 1, 2, 1, 4) ? 1 : 0, 1);
        DeckBalance far = Due.made(23, Due.cards(Due.card(WALL, 2, 4), Due.card(FIGHTER, 2, 8)), Due.deck(1, 1), Due.deck(0), Due.deck(1, 0));
        due.is("card 0 from 4 to 9", far.remedy(1, 2), 9);
        due.is("card 1 from 8 to 3 would do", isWithin(far, 1, 2, 1, 3) ? 1 : 0, 1);
    }

    /** "of several the lesser POWER". */
    private static void lesserPowerOfSeveral() {
        DeckBalance x = Due.made(26, Due.cards(Due.card(FIGHTER, 0, 6), Due.card(WALL, 0, 9)), Due.deck(1), Due.deck(1, 0), Due.deck(0, 0));
        due.is("card 0 from 6 to 5", x.remedy(1, 2), 5);
        due.is("from 6 to 7 would do", isWithin(x, 1, 2, 0, 7) ? 1 : 0, 1);
    }

    /** The wall must be 9 to hold off a fighter of 9. */
    private static void greatestChange() {
        DeckBalance x = Due.made(21, Due.cards(Due.card(FIGHTER, 3, 9), Due.card(WALL, 3, 0), Due.card(BLOW, 1, 2)),
            Due.deck(2), Due.deck(1), Due.deck(0));
        due.is("card 1 from 0 to 9", x.remedy(1, 2), 19);
    }

    private static void toPowerZero() {
        DeckBalance x = Due.made(20, Due.cards(Due.card(WALL, 1, 5), Due.card(FIGHTER, 3, 3), Due.card(WALL, 1, 7)),
            Due.deck(2, 0), Due.deck(1, 1), Due.deck(0, 1));
        due.is("card 2 from 7 to 0", x.remedy(1, 2), 20);
        due.is("1 would not do", isWithin(x, 1, 2, 2, 1) ? 1 : 0, 0);
    }

    /** The wall must be 9 to hold off the 9 of deck 2; with 8 deck 2 beats both. */
    private static void toPowerNine() {
        DeckBalance x = Due.made(17, Due.cards(Due.card(FIGHTER, 0, 3), Due.card(WALL, 2, 7), Due.card(FIGHTER, 2, 9)),
            Due.deck(1), Due.deck(0), Due.deck(2));
        due.shares("deck 2 beats both", x, "0/1 0/1 1/1");
        due.is("a wall of 9", x.remedy(2, 3), 19);
        x.power(1, 9);
        due.shares("with that wall", x, "2/3 0/1 1/3");
    }

    /** "no DECK more than u / v": as much is no more. */
    private static void justTheShare() {
        DeckBalance x = Due.made(29, Due.cards(Due.card(BLOW, 2, 8), Due.card(FIGHTER, 5, 3), Due.card(WALL, 5, 3)),
            Due.deck(2), Due.deck(1, 1), Due.deck(2, 1));
        due.shares("as it is", x, "1/3 0/1 2/3");
        due.is("card 0 is in no deck, and 2 / 3 are no more than 2 / 3", x.remedy(2, 3), 7);
        due.is("nor than 12 / 18", x.remedy(12, 18), 7);
        due.is("but more than 13 / 20", x.remedy(13, 20), 12);
        due.is("1 / 2 by that remedy", x.remedy(1, 2), 12);
        due.is("none for less", x.remedy(9, 19), -1);
        x.power(1, 2);
        due.shares("by that remedy", x, "1/2 0/1 1/2");
    }

    /** A blow of 1 is enough for deck 2 to beat deck 0, which else is even with both. */
    private static void aCardInTheLastDeckAlone() {
        DeckBalance x = Due.made(24, Due.cards(Due.card(FIGHTER, 3, 4), Due.card(WALL, 3, 6), Due.card(BLOW, 1, 0)),
            Due.deck(1), Due.deck(0), Due.deck(2));
        due.shares("deck 0 is even with both", x, "1/1 0/1 0/1");
        due.is("a blow of 1", x.remedy(2, 3), 21);
        due.is("no remedy for less than 1/2", x.remedy(9, 20), -1);
        x.power(2, 1);
        due.shares("with that blow", x, "1/2 1/2 0/1");
    }

    /** Without power all three are even; with 2 they are a ring, where with 1 they are none. */
    private static void aRemedyThatTurnsEveryTable() {
        DeckBalance x = Due.made(24, Due.cards(Due.card(FIGHTER, 0, 0), Due.card(WALL, 3, 2)), Due.deck(0, 0), Due.deck(0, 1), Due.deck(1, 1, 0));
        due.shares("all even", x, "1/1 0/1 0/1");
        due.is("a fighter of 2", x.remedy(1, 2), 2);
        x.power(0, 2);
        due.is("0 against 1", x.table(0, 1), 2);
        due.is("0 against 2", x.table(0, 2), -2);
        due.is("1 against 2", x.table(1, 2), 1);
        due.shares("a ring", x, "1/5 2/5 2/5");
    }

    /** "10 times the CARD and the POWER", with cards 0 to 8 in no DECK. */
    private static void theLastOfTwelveCards() {
        DeckBalance x = new DeckBalance();
        for (int i = 0; i < 9; i++) {
            x.card(WALL, 5, 0);
        }
        int fighter = x.card(FIGHTER, 3, 4), wall = x.card(WALL, 3, 6), blow = x.card(BLOW, 1, 0);
        x.life(24);
        x.add(x.deck(), wall);
        x.add(x.deck(), fighter);
        x.add(x.deck(), blow);
        due.is("card 11, power 1", x.remedy(2, 3), 111);
    }

    /** "NONE: there is none." */
    private static void noneWithoutCards() {
        DeckBalance x = Due.made(12, Due.cards(), Due.deck());
        due.is("no cards", x.remedy(1, 1), -1);
        x.card(FIGHTER, 0, 5);
        due.is("one deck always has all", x.remedy(19, 20), -1);
    }

    /** Of n DECKS one always has 1 / n or more. */
    private static void noneForLessThanAnEvenShare() {
        int[][] cards = Due.cards(Due.card(BLOW, 2, 2), Due.card(WALL, 1, 6), Due.card(FIGHTER, 1, 3), Due.card(WALL, 0, 7), Due.card(FIGHTER, 2, 6));
        DeckBalance x = Due.made(27, cards, Due.deck(3, 1, 4), Due.deck(0, 1, 0), Due.deck(0, 0, 0, 2, 0), Due.deck(0, 1, 1), Due.deck(4, 4));
        due.is("just 1 / 5", x.remedy(1, 5), sought(x, 1, 5));
        due.is("there is one", x.remedy(1, 5) >= 0 ? 1 : 0, 1);
        due.is("as 4 / 20", x.remedy(4, 20), x.remedy(1, 5));
        due.is("less than 1 / 5", x.remedy(3, 16), -1);
        due.is("the least share", x.remedy(1, 20), -1);
        due.shares("remedies change nothing", x, "1/5 1/5 1/5 1/5 1/5");
    }

    private static void remediesOfFiveDecks() {
        DeckBalance x = Due.made(7,
            Due.cards(Due.card(BLOW, 2, 1), Due.card(WALL, 0, 8), Due.card(BLOW, 3, 1), Due.card(BLOW, 3, 3), Due.card(FIGHTER, 3, 6)),
            Due.deck(1, 2, 3, 1), Due.deck(3, 0, 0, 4), Due.deck(2, 2, 1, 2, 2, 4), Due.deck(2, 3, 2, 0, 3, 0), Due.deck(0, 0, 4, 4));
        due.is("remedy(1, 5)", x.remedy(1, 5), -1);
        due.is("remedy(1, 4)", x.remedy(1, 4), 17);
        due.is("remedy(1, 3)", x.remedy(1, 3), 0);
        due.shares("remedies change nothing", x, "1/7 1/7 2/7 1/7 2/7");
        x.power(1, 7);
        due.shares("the remedy for 1/4", x, "1/4 1/4 1/4 0/1 1/4");
    }

    private static void remedyByItsDefinition() {
        for (int v = 1; v <= 20; v++) {
            for (int u = 1; u <= v; u++) {
                // A new one for each share: sought asks often, and an object is used for 512 calls at most.
                DeckBalance x = Due.made(39, Due.cards(Due.card(BLOW, 4, 3), Due.card(WALL, 1, 3), Due.card(FIGHTER, 0, 3), Due.card(WALL, 2, 6)),
                    Due.deck(2, 0), Due.deck(3, 0, 1), Due.deck(2, 3));
                due.is("remedy(" + u + ", " + v + ")", x.remedy(u, v), sought(x, u, v));
            }
        }
    }

    /** "(v 1 .. 20, u 1 .. v)" and "BAD; NOT". */
    private static void outOfBounds() {
        DeckBalance x = Due.made(12, Due.cards(Due.card(FIGHTER, 0, 5)), Due.deck());
        DeckBalance none = new DeckBalance();
        for (int v : Due.outside(1, 20)) {
            due.is("remedy(1, " + v + ")", x.remedy(1, v), -2);
            due.is("BAD goes ahead of NOT: remedy(1, " + v + ")", none.remedy(1, v), -2);
            due.is("remedy(" + v + ", " + v + ")", x.remedy(v, v), -2);
        }
        for (int v = 1; v <= 20; v++) {
            for (int u : Due.outside(1, v)) {
                due.is("remedy(" + u + ", " + v + ")", x.remedy(u, v), -2);
                due.is("BAD goes ahead of NOT: remedy(" + u + ", " + v + ")", none.remedy(u, v), -2);
            }
        }
    }

    private static void greatestAndLeastShare() {
        DeckBalance x = Due.made(12, Due.cards(Due.card(FIGHTER, 0, 5)), Due.deck());
        for (int v = 1; v <= 20; v++) {
            due.is("remedy(" + v + ", " + v + ")", x.remedy(v, v), 4);
            due.is("remedy(1, " + v + ")", x.remedy(1, v), v == 1 ? 4 : -1);
        }
    }

    /** "NOT: there are no DECKS." */
    private static void withoutDecks() {
        DeckBalance x = new DeckBalance();
        due.is("a new one", x.remedy(1, 1), -3);
        x.card(FIGHTER, 0, 5);
        due.is("cards alone are not enough", x.remedy(20, 20), -3);
        x.deck();
        due.is("an empty deck is", x.remedy(1, 1), 4);
    }

    private static int sought(DeckBalance x, int u, int v) {
        for (int change = 1; change <= 9; change++) {
            for (int card = 0; card < x.count(0); card++) {
                int was = x.power(card, 0);
                x.power(card, was);
                for (int power : new int[] {was - change, was + change}) {
                    if (power >= 0 && power <= 9 && isWithin(x, u, v, card, power)) {
                        return 10 * card + power;
                    }
                }
            }
        }
        return -1;
    }

    private static boolean isWithin(DeckBalance x, int u, int v, int card, int power) {
        int was = x.power(card, power);
        int decks = x.count(1);
        boolean isGood = true;
        for (int d = 0; d < decks && isGood; d++) {
            isGood = x.share(d, 0) * v <= u * x.share(d, 1);
        }
        x.power(card, was);
        return isGood;
    }
}
