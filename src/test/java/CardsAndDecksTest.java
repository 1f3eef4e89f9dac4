/** Promises 1 to 9 and 21: a new object, cards, decks, life, counts. */
public final class CardsAndDecksTest {
    private static final Due due = new Due();

    public static void main(String[] args) {
        newObject();
        card();
        cardsAreFull();
        power();
        decksAreFull();
        add();
        drop();
        swap();
        at();
        life();
        count();
        constants();
        due.end();
    }

    private static void newObject() {
        DeckBalance x = new DeckBalance();
        due.is("new: cards", x.count(0), 0);
        due.is("new: decks", x.count(1), 0);
        due.is("new: cards in decks", x.count(2), 0);
        due.is("new: life", x.count(3), 12);
        due.is("new: no card 0", x.power(0, 1), -2);
        due.is("new: no deck 0", x.at(0, 0), -2);
        x.card(0, 1, 1);
        x.deck();
        due.is("another new one has no cards", new DeckBalance().count(0), 0);
    }

    private static void card() {
        DeckBalance x = new DeckBalance();
        due.is("card(0, 0, 0)", x.card(0, 0, 0), 0);
        due.is("card(2, 5, 9)", x.card(2, 5, 9), 1);
        int[][] wrong = {{-1, 0, 0}, {3, 0, 0}, {0, -1, 0}, {0, 6, 0}, {0, 0, -1}, {0, 0, 10},
            {Due.LEAST, 0, 0}, {0, Integer.MAX_VALUE, 0}, {0, 0, Due.LEAST}};
        for (int[] w : wrong) {
            due.is("card out of bounds", x.card(w[0], w[1], w[2]), -2);
        }
        due.is("refused cards change nothing", x.count(0), 2);
        due.is("the next number", x.card(1, 3, 4), 2);
        due.is("its power", x.power(2, 4), 4);
    }

    private static void cardsAreFull() {
        DeckBalance x = new DeckBalance();
        for (int i = 0; i < 12; i++) {
            due.is("card " + i, x.card(i % 3, i % 6, i % 10), i);
        }
        due.is("a 13th card", x.card(0, 0, 0), -4);
        due.is("BAD goes ahead of FULL", x.card(0, 0, 10), -2);
        due.is("still 12", x.count(0), 12);
        due.is("the last card's power", x.power(11, 0), 1);
    }

    private static void power() {
        DeckBalance x = Due.made(12, Due.cards(Due.card(1, 0, 3), Due.card(1, 0, 5)), Due.deck(0), Due.deck());
        due.is("power(0, 9)", x.power(0, 9), 3);
        due.is("power(0, 10)", x.power(0, 10), -2);
        due.is("power(0, -1)", x.power(0, -1), -2);
        due.is("power(2, 0)", x.power(2, 0), -2);
        due.is("power(-1, 0)", x.power(-1, 0), -2);
        due.is("a game with the new power", x.told(0, 1, 2), 3);
        due.is("power(0, 0)", x.power(0, 0), 9);
        due.is("power(0, 0) again", x.power(0, 0), 0);
        due.is("the other card's stays", x.power(1, 5), 5);
        due.is("a game without power", x.told(0, 1, 2), 12);
    }

    private static void decksAreFull() {
        DeckBalance x = new DeckBalance();
        for (int i = 0; i < 5; i++) {
            due.is("deck " + i, x.deck(), i);
            due.is("it is empty", x.at(i, 0), -1);
        }
        due.is("a sixth deck", x.deck(), -4);
        due.is("still 5", x.count(1), 5);
        due.is("no deck 5", x.at(5, 0), -2);
    }

    private static void add() {
        DeckBalance x = Due.made(12, Due.cards(Due.card(0, 1, 1), Due.card(1, 1, 1)), Due.deck(), Due.deck());
        due.is("add(2, 0)", x.add(2, 0), -2);
        due.is("add(-1, 0)", x.add(-1, 0), -2);
        due.is("add(0, 2)", x.add(0, 2), -2);
        due.is("add(0, -1)", x.add(0, -1), -2);
        for (int i = 1; i <= 10; i++) {
            due.is("add number " + i, x.add(0, i % 2), i);
        }
        due.is("an 11th", x.add(0, 0), -4);
        due.is("BAD goes ahead of FULL", x.add(0, 2), -2);
        due.is("the end", x.at(0, 9), 0);
        due.is("behind the end", x.at(0, 10), -1);
        due.is("the other deck has room", x.add(1, 1), 1);
        due.is("cards in all decks", x.count(2), 11);
    }

    private static void drop() {
        DeckBalance x = Due.made(12, Due.cards(Due.card(0, 1, 1), Due.card(1, 1, 1), Due.card(2, 1, 1)),
            Due.deck(0, 1, 2, 1), Due.deck());
        due.is("drop(0, 4)", x.drop(0, 4), -2);
        due.is("drop(0, -1)", x.drop(0, -1), -2);
        due.is("drop(1, 0)", x.drop(1, 0), -2);
        due.is("drop(2, 0)", x.drop(2, 0), -2);
        due.is("drop(-1, 0)", x.drop(-1, 0), -2);
        due.is("refused ones change nothing", x.count(2), 4);
        due.is("drop(0, 1)", x.drop(0, 1), 1);
        due.is("the one behind moves up", x.at(0, 1), 2);
        due.is("and the last", x.at(0, 2), 1);
        due.is("one fewer", x.at(0, 3), -1);
        due.is("the first", x.drop(0, 0), 0);
        due.is("the last", x.drop(0, 1), 1);
        due.is("what is left", x.drop(0, 0), 2);
        due.is("nothing left", x.drop(0, 0), -2);
        due.is("add behind drops", x.add(0, 2), 1);
        due.is("it is there", x.at(0, 0), 2);
        DeckBalance full = Due.made(12, Due.cards(Due.card(0, 0, 0), Due.card(0, 0, 0)), Due.deck(0, 0, 0, 0, 0, 0, 0, 0, 0, 1));
        due.is("from a full deck", full.drop(0, 0), 0);
        due.is("its last moved up", full.at(0, 8), 1);
        due.is("room again", full.add(0, 0), 10);
    }

    private static void swap() {
        DeckBalance x = Due.made(9, Due.cards(Due.card(1, 0, 9), Due.card(2, 0, 0)), Due.deck(1, 1, 1, 0), Due.deck());
        due.is("turn of the blow", x.told(0, 1, 0), 3);
        due.is("swap(0, 0, 4)", x.swap(0, 0, 4), -2);
        due.is("swap(0, 4, 0)", x.swap(0, 4, 0), -2);
        due.is("swap(0, -1, 0)", x.swap(0, -1, 0), -2);
        due.is("swap(0, 0, -1)", x.swap(0, 0, -1), -2);
        due.is("swap(1, 0, 0)", x.swap(1, 0, 0), -2);
        due.is("swap(2, 0, 0)", x.swap(2, 0, 0), -2);
        due.is("swap(-1, 0, 0)", x.swap(-1, 0, 0), -2);
        due.is("a place with itself", x.swap(0, 3, 3), 1);
        due.is("nothing has changed", x.at(0, 3), 0);
        due.is("swap(0, 3, 0)", x.swap(0, 3, 0), 1);
        due.is("place 0", x.at(0, 0), 0);
        due.is("place 3", x.at(0, 3), 1);
        due.is("the blow is drawn in its new place", x.told(0, 1, 0), 1);
    }

    private static void at() {
        DeckBalance x = Due.made(12, Due.cards(Due.card(0, 0, 0), Due.card(0, 0, 0)), Due.deck(1, 0));
        due.is("at(0, 0)", x.at(0, 0), 1);
        due.is("at(0, 1)", x.at(0, 1), 0);
        due.is("at(0, 2)", x.at(0, 2), -1);
        due.is("at(0, 10)", x.at(0, 10), -1);
        due.is("at(0, greatest int)", x.at(0, Integer.MAX_VALUE), -1);
        due.is("at(0, -1)", x.at(0, -1), -2);
        due.is("at(1, 0)", x.at(1, 0), -2);
        due.is("at(-1, 0)", x.at(-1, 0), -2);
    }

    private static void life() {
        DeckBalance x = new DeckBalance();
        due.is("life(4)", x.life(4), -2);
        due.is("life(41)", x.life(41), -2);
        due.is("life(-5)", x.life(-5), -2);
        due.is("life(5)", x.life(5), 12);
        due.is("life(40)", x.life(40), 5);
        due.is("life(12)", x.life(12), 40);
        x.deck();
        due.is("a game begins with it", x.told(0, 0, 1), 12);
        x.life(33);
        due.is("and with the next", x.told(0, 0, 1), 33);
    }

    private static void count() {
        DeckBalance x = Due.made(17, Due.cards(Due.card(0, 0, 0), Due.card(0, 0, 0)), Due.deck(1, 0, 1), Due.deck(), Due.deck(0));
        due.is("count(0)", x.count(0), 2);
        due.is("count(1)", x.count(1), 3);
        due.is("count(2)", x.count(2), 4);
        due.is("count(3)", x.count(3), 17);
        due.is("count(4)", x.count(4), -2);
        due.is("count(-1)", x.count(-1), -2);
    }

    private static void constants() {
        due.is("NONE", DeckBalance.NONE, -1);
        due.is("BAD", DeckBalance.BAD, -2);
        due.is("NOT", DeckBalance.NOT, -3);
        due.is("FULL", DeckBalance.FULL, -4);
    }
}
