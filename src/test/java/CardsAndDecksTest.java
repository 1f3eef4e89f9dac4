/** Promises 1 to 9 and 21. What a test quotes is the sentence of the document that it would see broken. */
public final class CardsAndDecksTest {
    private static final Due due = new Due();

    public static void main(String[] args) {
        newObject();
        newObjectsAreTheirOwn();
        sorts();
        costs();
        powers();
        twelveCards();
        power();
        powerOfNoSuchCard();
        powerOutOfBounds();
        fiveDecks();
        tenCardsInADeck();
        oneCardTenTimes();
        addOfNoSuch();
        drop();
        dropFromAFullDeck();
        dropOfNoSuchPlace();
        swap();
        swapOfNoSuchPlace();
        at();
        atBehindTheLast();
        atBelowTheFirst();
        life();
        lifeOutOfBounds();
        count();
        countWhenFull();
        countOutOfBounds();
        constants();
        due.end();
    }

    private static DeckBalance withCards(int n) {
        DeckBalance x = new DeckBalance();
        for (int i = 0; i < n; i++) {
            x.card(i % 3, i % 6, i % 10);
        }
        return x;
    }

    /** "No CARDS, DECKS." and "LIFE (.. 12 at first)". */
    private static void newObject() {
        DeckBalance x = new DeckBalance();
        due.is("new: cards", x.count(0), 0);
        due.is("new: decks", x.count(1), 0);
        due.is("new: cards in decks", x.count(2), 0);
        due.is("new: life", x.count(3), 12);
        due.is("new: no card 0", x.power(0, 1), -2);
        due.is("new: no deck 0", x.at(0, 0), -2);
    }

    private static void newObjectsAreTheirOwn() {
        DeckBalance x = Due.made(30, Due.cards(Due.card(0, 1, 1)), Due.deck(0));
        DeckBalance y = new DeckBalance();
        due.is("another new one has no cards", y.count(0), 0);
        due.is("nor decks", y.count(1), 0);
        due.is("nor another life", y.count(3), 12);
        y.card(0, 1, 5);
        due.is("nor does it change the first", x.power(0, 1), 1);
    }

    /** "SORT 0 FIGHTER, 1 BLOW, 2 WALL". */
    private static void sorts() {
        DeckBalance x = new DeckBalance();
        for (int sort = 0; sort <= 2; sort++) {
            due.is("sort " + sort, x.card(sort, 0, 0), sort);
        }
        for (int sort : Due.outside(0, 2)) {
            due.is("sort " + sort, x.card(sort, 0, 0), -2);
        }
        due.is("refused cards are not there", x.count(0), 3);
    }

    /** "COST 0 .. 5". */
    private static void costs() {
        DeckBalance x = new DeckBalance();
        for (int cost = 0; cost <= 5; cost++) {
            due.is("cost " + cost, x.card(0, cost, 0), cost);
        }
        for (int cost : Due.outside(0, 5)) {
            due.is("cost " + cost, x.card(0, cost, 0), -2);
        }
        due.is("refused cards are not there", x.count(0), 6);
    }

    /** "POWER 0 .. 9". */
    private static void powers() {
        DeckBalance x = new DeckBalance();
        for (int power = 0; power <= 9; power++) {
            due.is("power " + power, x.card(0, 0, power), power);
            due.is("it has it", x.power(power, power), power);
        }
        for (int power : Due.outside(0, 9)) {
            due.is("power " + power, x.card(0, 0, power), -2);
        }
        due.is("refused cards are not there", x.count(0), 10);
    }

    /** "CARDS are numbered from 0, 12 at most" and card's "BAD; FULL." */
    private static void twelveCards() {
        DeckBalance x = new DeckBalance();
        for (int i = 0; i < 12; i++) {
            due.is("card " + i, x.card(i % 3, i % 6, i % 10), i);
        }
        due.is("a 13th card", x.card(0, 0, 0), -4);
        due.is("BAD sort goes ahead of FULL", x.card(3, 0, 0), -2);
        due.is("BAD cost goes ahead of FULL", x.card(0, -1, 0), -2);
        due.is("BAD power goes ahead of FULL", x.card(0, 0, 10), -2);
        due.is("still 12", x.count(0), 12);
        due.is("the last card's power", x.power(11, 0), 1);
        due.is("no card 12", x.power(12, 0), -2);
    }

    /** "POWER of a CARD: which it was." */
    private static void power() {
        DeckBalance x = Due.made(12, Due.cards(Due.card(1, 0, 3), Due.card(1, 0, 5)), Due.deck(0), Due.deck());
        due.is("power(0, 9)", x.power(0, 9), 3);
        due.is("a game with the new power", x.told(0, 1, 2), 3);
        due.is("power(0, 0)", x.power(0, 0), 9);
        due.is("power(0, 0) again", x.power(0, 0), 0);
        due.is("a game without power", x.told(0, 1, 2), 12);
        due.is("the other card's stays", x.power(1, 5), 5);
    }

    /** power's "BAD" (no such CARD). */
    private static void powerOfNoSuchCard() {
        DeckBalance x = withCards(3);
        for (int card : Due.outside(0, 2)) {
            due.is("power(" + card + ", 0)", x.power(card, 0), -2);
        }
        due.is("the last card is there", x.power(2, 9), 2);
    }

    /** power's "BAD" (a number out of its bounds). */
    private static void powerOutOfBounds() {
        DeckBalance x = Due.made(12, Due.cards(Due.card(1, 0, 3)));
        for (int v : Due.outside(0, 9)) {
            due.is("power(0, " + v + ")", x.power(0, v), -2);
        }
        due.is("the power is as it was", x.power(0, 0), 3);
    }

    /** "DECKS are numbered from 0, 5 at most", "A DECK without CARDS: its number. FULL." */
    private static void fiveDecks() {
        DeckBalance x = new DeckBalance();
        for (int i = 0; i < 5; i++) {
            due.is("no deck " + i + " ahead of it", x.at(i, 0), -2);
            due.is("deck " + i, x.deck(), i);
            due.is("it is empty", x.at(i, 0), -1);
        }
        due.is("a sixth deck", x.deck(), -4);
        due.is("still 5", x.count(1), 5);
        due.is("no deck 5", x.at(5, 0), -2);
    }

    /** "rows of CARDS, 10 at most each" and add's "at the end of a DECK: how many. BAD; FULL." */
    private static void tenCardsInADeck() {
        DeckBalance x = withCards(12);
        x.deck();
        x.deck();
        for (int i = 0; i < 10; i++) {
            due.is("add(0, " + i + ")", x.add(0, i), i + 1);
            due.is("at the end", x.at(0, i), i);
        }
        due.is("an 11th", x.add(0, 11), -4);
        due.is("BAD card goes ahead of FULL", x.add(0, 12), -2);
        due.is("still ten", x.count(2), 10);
        due.is("the end is as it was", x.at(0, 9), 9);
        due.is("nothing behind the end", x.at(0, 10), -1);
        due.is("the other deck has room", x.add(1, 11), 1);
    }

    /** "(a CARD may be there more than once)". */
    private static void oneCardTenTimes() {
        DeckBalance x = withCards(1);
        x.deck();
        for (int i = 1; i <= 10; i++) {
            due.is("the same card again", x.add(0, 0), i);
        }
        due.is("an 11th", x.add(0, 0), -4);
        due.is("ten of one", x.count(2), 10);
    }

    /** add's "BAD" (no such CARD, DECK). */
    private static void addOfNoSuch() {
        DeckBalance x = Due.made(12, Due.cards(Due.card(0, 1, 1), Due.card(1, 1, 1)), Due.deck(), Due.deck());
        for (int deck : Due.outside(0, 1)) {
            due.is("add(" + deck + ", 0)", x.add(deck, 0), -2);
        }
        for (int card : Due.outside(0, 1)) {
            due.is("add(0, " + card + ")", x.add(0, card), -2);
        }
        due.is("nothing was added", x.count(2), 0);
        due.is("the last card to the last deck", x.add(1, 1), 1);
    }

    /** "The CARD at a place (from 0) of a DECK goes: which it was." */
    private static void drop() {
        DeckBalance x = Due.made(12, Due.cards(Due.card(0, 1, 1), Due.card(1, 1, 1), Due.card(2, 1, 1)),
            Due.deck(0, 1, 2, 1), Due.deck(2));
        due.is("drop(0, 1)", x.drop(0, 1), 1);
        due.is("the one ahead stays", x.at(0, 0), 0);
        due.is("the one behind moves up", x.at(0, 1), 2);
        due.is("and the last", x.at(0, 2), 1);
        due.is("one fewer", x.at(0, 3), -1);
        due.is("the first", x.drop(0, 0), 0);
        due.is("the last", x.drop(0, 1), 1);
        due.is("what is left", x.drop(0, 0), 2);
        due.is("nothing left", x.at(0, 0), -1);
        due.is("the other deck's stays", x.at(1, 0), 2);
        due.is("add behind drops", x.add(0, 2), 1);
        due.is("it is there", x.at(0, 0), 2);
    }

    private static void dropFromAFullDeck() {
        DeckBalance x = Due.made(12, Due.cards(Due.card(0, 0, 0), Due.card(0, 0, 0)), Due.deck(0, 0, 0, 0, 0, 0, 0, 0, 0, 1));
        due.is("the first of ten", x.drop(0, 0), 0);
        due.is("the last moved up", x.at(0, 8), 1);
        due.is("nine are left", x.at(0, 9), -1);
        due.is("room again", x.add(0, 1), 10);
        due.is("the last of ten", x.drop(0, 9), 1);
        due.is("nine again", x.count(2), 9);
    }

    /** drop's "BAD" (no such DECK, place). */
    private static void dropOfNoSuchPlace() {
        DeckBalance x = Due.made(12, Due.cards(Due.card(0, 1, 1)), Due.deck(0, 0, 0), Due.deck());
        for (int place : Due.outside(0, 2)) {
            due.is("drop(0, " + place + ")", x.drop(0, place), -2);
        }
        for (int deck : Due.outside(0, 1)) {
            due.is("drop(" + deck + ", 0)", x.drop(deck, 0), -2);
        }
        due.is("from an empty deck", x.drop(1, 0), -2);
        due.is("nothing has gone", x.count(2), 3);
    }

    /** "Two places of a DECK are exchanged: 1." */
    private static void swap() {
        DeckBalance x = Due.made(9, Due.cards(Due.card(1, 0, 9), Due.card(2, 0, 0)), Due.deck(1, 1, 1, 0), Due.deck());
        due.is("turn of the blow", x.told(0, 1, 0), 3);
        due.is("a place with itself", x.swap(0, 3, 3), 1);
        due.is("nothing has changed", x.at(0, 3), 0);
        due.is("the last with the first", x.swap(0, 3, 0), 1);
        due.is("place 0", x.at(0, 0), 0);
        due.is("places between stay", x.at(0, 1) * 10 + x.at(0, 2), 11);
        due.is("place 3", x.at(0, 3), 1);
        due.is("the blow is drawn in its new place", x.told(0, 1, 0), 1);
        due.is("the first with the last", x.swap(0, 0, 3), 1);
        due.is("as it was", x.at(0, 0) * 10 + x.at(0, 3), 10);
    }

    /** swap's "BAD" (no such DECK, place). */
    private static void swapOfNoSuchPlace() {
        DeckBalance x = Due.made(9, Due.cards(Due.card(1, 0, 9), Due.card(2, 0, 0)), Due.deck(1, 1, 0), Due.deck());
        for (int place : Due.outside(0, 2)) {
            due.is("swap(0, " + place + ", 0)", x.swap(0, place, 0), -2);
            due.is("swap(0, 2, " + place + ")", x.swap(0, 2, place), -2);
            due.is("a place that is not there with itself", x.swap(0, place, place), -2);
        }
        for (int deck : Due.outside(0, 1)) {
            due.is("swap(" + deck + ", 0, 0)", x.swap(deck, 0, 0), -2);
        }
        due.is("an empty deck has no place", x.swap(1, 0, 0), -2);
        due.is("nothing has changed", x.at(0, 0) * 100 + x.at(0, 1) * 10 + x.at(0, 2), 110);
    }

    /** "The CARD at a place". */
    private static void at() {
        DeckBalance x = Due.made(12, Due.cards(Due.card(0, 0, 0), Due.card(0, 0, 0)), Due.deck(1, 0), Due.deck(0));
        due.is("at(0, 0)", x.at(0, 0), 1);
        due.is("at(0, 1)", x.at(0, 1), 0);
        due.is("at(1, 0)", x.at(1, 0), 0);
        for (int deck : Due.outside(0, 1)) {
            due.is("at(" + deck + ", 0)", x.at(deck, 0), -2);
        }
    }

    /** "NONE: it has not so many." */
    private static void atBehindTheLast() {
        DeckBalance x = Due.made(12, Due.cards(Due.card(0, 0, 0)), Due.deck(0, 0), Due.deck(), Due.deck(0, 0, 0, 0, 0, 0, 0, 0, 0, 0));
        due.is("just behind the last", x.at(0, 2), -1);
        due.is("in an empty deck", x.at(1, 0), -1);
        due.is("the last of a full deck", x.at(2, 9), 0);
        due.is("just behind it", x.at(2, 10), -1);
        due.is("far behind", x.at(0, Due.MOST), -1);
    }

    /** "BAD: also a place below 0." */
    private static void atBelowTheFirst() {
        DeckBalance x = Due.made(12, Due.cards(Due.card(0, 0, 0)), Due.deck(0), Due.deck());
        due.is("just below", x.at(0, -1), -2);
        due.is("far below", x.at(0, Due.LEAST), -2);
        due.is("in an empty deck", x.at(1, -1), -2);
    }

    /** "LIFE at the beginning: which it was." */
    private static void life() {
        DeckBalance x = new DeckBalance();
        due.is("the first one was 12", x.life(5), 12);
        due.is("the least was taken", x.life(40), 5);
        due.is("the greatest was taken", x.life(12), 40);
        x.deck();
        due.is("a game begins with it", x.told(0, 0, 1), 12);
        x.life(33);
        due.is("and with the next", x.told(0, 0, 1), 33);
        due.is("for both", x.told(0, 0, 2), 33);
    }

    /** "LIFE (5 .. 40". */
    private static void lifeOutOfBounds() {
        DeckBalance x = new DeckBalance();
        for (int v : Due.outside(5, 40)) {
            due.is("life(" + v + ")", x.life(v), -2);
        }
        due.is("life(0)", x.life(0), -2);
        due.is("it is as it was", x.count(3), 12);
    }

    /** "0 CARDS, 1 DECKS, 2 CARDS in all DECKS, 3 LIFE." */
    private static void count() {
        DeckBalance x = Due.made(17, Due.cards(Due.card(0, 0, 0), Due.card(0, 0, 0)), Due.deck(1, 0, 1), Due.deck(), Due.deck(0));
        due.is("count(0)", x.count(0), 2);
        due.is("count(1)", x.count(1), 3);
        due.is("count(2)", x.count(2), 4);
        due.is("count(3)", x.count(3), 17);
    }

    private static void countWhenFull() {
        int[] ten = Due.deck(0, 1, 2, 3, 4, 5, 6, 7, 8, 9);
        int[][] cards = new int[12][];
        java.util.Arrays.fill(cards, Due.card(0, 0, 0));
        DeckBalance x = Due.made(40, cards, ten, ten, ten, ten, ten);
        due.is("twelve cards", x.count(0), 12);
        due.is("five decks", x.count(1), 5);
        due.is("fifty cards in them", x.count(2), 50);
        due.is("the greatest life", x.count(3), 40);
    }

    /** count's "BAD". */
    private static void countOutOfBounds() {
        for (int what : Due.outside(0, 3)) {
            due.is("count(" + what + ")", withCards(2).count(what), -2);
        }
    }

    private static void constants() {
        due.is("NONE", DeckBalance.NONE, -1);
        due.is("BAD", DeckBalance.BAD, -2);
        due.is("NOT", DeckBalance.NOT, -3);
        due.is("FULL", DeckBalance.FULL, -4);
    }
}
