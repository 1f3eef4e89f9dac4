/**
 * Promises 15 to 17: the mix as exact shares, live decks, standings.
 * What a test quotes is the sentence of the document that it would see broken.
 */
public final class MixTest {
    private static final int FIGHTER = 0, BLOW = 1, WALL = 2;
    private static final Due due = new Due();

    public static void main(String[] args) {
        oneDeck();
        decksAlike();
        oneBeatsAll();
        ringOfThirds();
        ringsWithUnevenTables();
        greatestForTheFirstDecks();
        greatestForTheLaterDecks();
        fourAndFiveLive();
        evenFifths();
        lowestTerms();
        sharesFollowEveryChange();
        noShareOf();
        liveWithoutDecks();
        standings();
        leastAndGreatestStanding();
        noStandingOf();
        due.end();
    }

    /** "all together 1". */
    private static void oneDeck() {
        DeckBalance x = Due.made(12, Due.cards(), Due.deck());
        due.shares("one deck", x, "1/1");
        due.is("live()", x.live(), 1);
    }

    /** "is 0 or more": 0 is enough, against all DECKS. */
    private static void decksAlike() {
        DeckBalance x = Due.made(12, Due.cards(Due.card(BLOW, 1, 1)), Due.deck(0), Due.deck(0), Due.deck(0), Due.deck(0), Due.deck(0));
        due.shares("five alike: all to deck 0", x, "1/1 0/1 0/1 0/1 0/1");
        due.is("live()", x.live(), 1);
    }

    /** "none below 0": what is beaten by a live DECK has 0. */
    private static void oneBeatsAll() {
        DeckBalance x = Due.made(12, Due.cards(Due.card(BLOW, 1, 1)), Due.deck(), Due.deck(0), Due.deck(0, 0), Due.deck());
        due.shares("deck 2 beats all", x, "0/1 0/1 1/1 0/1");
        due.is("live()", x.live(), 1);
        x.drop(2, 0);
        due.shares("decks 1 and 2 draw", x, "0/1 1/1 0/1 0/1");
    }

    private static void ringOfThirds() {
        DeckBalance x = Due.made(29, Due.cards(Due.card(FIGHTER, 3, 5), Due.card(WALL, 2, 3), Due.card(BLOW, 0, 1)),
            Due.deck(2, 1, 1), Due.deck(0), Due.deck(2, 2, 1));
        due.shares("a ring", x, "1/3 1/3 1/3");
        due.is("live()", x.live(), 3);
        x.deck();
        due.is("an empty deck loses to 0", x.table(0, 3), 2);
        due.shares("a ring and an empty deck", x, "1/3 1/3 1/3 0/1");
        DeckBalance late = Due.made(31, Due.cards(Due.card(BLOW, 3, 2), Due.card(FIGHTER, 3, 5), Due.card(WALL, 3, 6)),
            Due.deck(0, 0), Due.deck(1, 0, 1), Due.deck(2, 0), Due.deck(1, 2));
        due.shares("a ring of decks 1, 2, 3", late, "0/1 1/3 1/3 1/3");
    }

    /** In a ring each share goes with the table of the other two: 1, 2, 1 and 2, 2, 1 parts. */
    private static void ringsWithUnevenTables() {
        DeckBalance half = Due.made(39, Due.cards(Due.card(BLOW, 4, 3), Due.card(WALL, 1, 3), Due.card(FIGHTER, 0, 3), Due.card(WALL, 2, 6)),
            Due.deck(2, 0), Due.deck(3, 0, 1), Due.deck(2, 3));
        due.is("0 against 1", half.table(0, 1), 1);
        due.is("1 against 2", half.table(1, 2), 1);
        due.is("2 against 0", half.table(2, 0), 2);
        due.shares("tables 1, 1, 2", half, "1/4 1/2 1/4");
        DeckBalance fifths = Due.made(29, Due.cards(Due.card(WALL, 0, 5), Due.card(FIGHTER, 1, 6), Due.card(BLOW, 2, 8)),
            Due.deck(2, 1), Due.deck(2, 0, 0, 0), Due.deck(1, 1));
        due.is("0 against 1", fifths.table(0, 1), 1);
        due.is("1 against 2", fifths.table(1, 2), 2);
        due.is("2 against 0", fifths.table(2, 0), 2);
        due.shares("tables 1, 2, 2", fifths, "2/5 2/5 1/5");
    }

    /** "the one with the greatest share of DECK 0, of these that with the greatest of DECK 1". */
    private static void greatestForTheFirstDecks() {
        DeckBalance half = Due.made(39, Due.cards(Due.card(WALL, 0, 1), Due.card(FIGHTER, 2, 1)), Due.deck(1, 1), Due.deck(0), Due.deck(0, 1, 0));
        due.is("0 beats 1", half.table(0, 1), 2);
        due.is("2 beats 0", half.table(2, 0), 2);
        due.is("1 and 2 are even", half.table(1, 2), 0);
        due.shares("deck 1 as far as deck 2 makes up for it", half, "0/1 1/2 1/2");
        due.is("live()", half.live(), 2);
        DeckBalance third = Due.made(29, Due.cards(Due.card(BLOW, 2, 8), Due.card(FIGHTER, 5, 3), Due.card(WALL, 5, 3)),
            Due.deck(2), Due.deck(1, 1), Due.deck(2, 1));
        due.is("1 beats 0", third.table(1, 0), 2);
        due.is("2 beats 1", third.table(2, 1), 1);
        due.is("0 and 2 are even", third.table(0, 2), 0);
        due.shares("deck 0 as far as deck 2 makes up for it", third, "1/3 0/1 2/3");
    }

    /** "and so on". */
    private static void greatestForTheLaterDecks() {
        int[][] blow = Due.cards(Due.card(BLOW, 0, 9));
        int[] none = Due.deck(), one = Due.deck(0);
        due.shares("of decks 1 to 4", Due.made(12, blow, none, one, one, one, one), "0/1 1/1 0/1 0/1 0/1");
        due.shares("of decks 2 to 4", Due.made(12, blow, none, none, one, one, one), "0/1 0/1 1/1 0/1 0/1");
        due.shares("of decks 3 and 4", Due.made(12, blow, none, none, none, one, one), "0/1 0/1 0/1 1/1 0/1");
        due.shares("deck 4 alone", Due.made(12, blow, none, none, none, none, one), "0/1 0/1 0/1 0/1 1/1");
        int[][] cards = Due.cards(Due.card(FIGHTER, 3, 5), Due.card(WALL, 2, 3), Due.card(BLOW, 0, 1));
        DeckBalance twice = Due.made(29, cards, Due.deck(2, 1, 1), Due.deck(0), Due.deck(2, 2, 1), Due.deck(2, 2, 1), Due.deck(2, 1, 1));
        due.shares("of two alike in a ring the first", twice, "1/3 1/3 1/3 0/1 0/1");
    }

    /** "How many DECKS have a share above 0." */
    private static void fourAndFiveLive() {
        DeckBalance four = Due.made(18, Due.cards(Due.card(FIGHTER, 1, 6), Due.card(WALL, 1, 5)),
            Due.deck(1, 1, 1, 1, 0, 1), Due.deck(0, 0, 0, 0, 1), Due.deck(0, 0, 1), Due.deck(1, 0, 1), Due.deck(1, 1, 1, 0, 0));
        due.shares("four live", four, "1/4 3/8 1/8 1/4 0/1");
        due.is("live()", four.live(), 4);
        DeckBalance five = Due.made(7,
            Due.cards(Due.card(BLOW, 2, 1), Due.card(WALL, 0, 8), Due.card(BLOW, 3, 1), Due.card(BLOW, 3, 3), Due.card(FIGHTER, 3, 6)),
            Due.deck(1, 2, 3, 1), Due.deck(3, 0, 0, 4), Due.deck(2, 2, 1, 2, 2, 4), Due.deck(2, 3, 2, 0, 3, 0), Due.deck(0, 0, 4, 4));
        due.shares("five live", five, "1/7 1/7 2/7 1/7 2/7");
        due.is("live()", five.live(), 5);
    }

    /** "with the greatest share of DECK 0" leaves no choice where one MIX alone HOLDS. */
    private static void evenFifths() {
        int[][] cards = Due.cards(Due.card(BLOW, 2, 2), Due.card(WALL, 1, 6), Due.card(FIGHTER, 1, 3), Due.card(WALL, 0, 7), Due.card(FIGHTER, 2, 6));
        DeckBalance x = Due.made(27, cards, Due.deck(3, 1, 4), Due.deck(0, 1, 0), Due.deck(0, 0, 0, 2, 0), Due.deck(0, 1, 1), Due.deck(4, 4));
        due.shares("five rings", x, "1/5 1/5 1/5 1/5 1/5");
        due.is("live()", x.live(), 5);
    }

    /** "in lowest terms: what is above (part 0), below (1)". */
    private static void lowestTerms() {
        DeckBalance half = Due.made(39, Due.cards(Due.card(WALL, 0, 1), Due.card(FIGHTER, 2, 1)), Due.deck(1, 1), Due.deck(0), Due.deck(0, 1, 0));
        due.is("nothing is 0 / 1: above", half.share(0, 0), 0);
        due.is("below", half.share(0, 1), 1);
        due.is("a half is 1 / 2: above", half.share(1, 0), 1);
        due.is("below", half.share(1, 1), 2);
        DeckBalance all = Due.made(12, Due.cards(), Due.deck());
        due.is("all is 1 / 1: above", all.share(0, 0), 1);
        due.is("below", all.share(0, 1), 1);
    }

    private static void sharesFollowEveryChange() {
        DeckBalance x = Due.made(9, Due.cards(Due.card(BLOW, 0, 9), Due.card(WALL, 0, 0)), Due.deck(1), Due.deck(1));
        due.shares("even", x, "1/1 0/1");
        x.add(1, 0);
        due.shares("behind add", x, "0/1 1/1");
        x.power(0, 0);
        due.shares("behind power", x, "1/1 0/1");
        x.power(0, 9);
        x.drop(1, 1);
        due.shares("behind drop", x, "1/1 0/1");
        x.add(1, 1);
        x.add(1, 0);
        x.add(0, 1);
        x.add(0, 1);
        x.add(0, 0);
        due.shares("the sooner blow", x, "0/1 1/1");
        x.swap(0, 0, 3);
        due.shares("behind swap", x, "1/1 0/1");
        x.deck();
        due.shares("behind deck", x, "1/1 0/1 0/1");
        DeckBalance y = Due.made(40, Due.cards(Due.card(FIGHTER, 0, 4), Due.card(BLOW, 0, 9)), Due.deck(0), Due.deck(1));
        due.shares("a long game", y, "1/1 0/1");
        y.life(9);
        due.shares("behind life", y, "0/1 1/1");
    }

    /** share's "-2: BAD." */
    private static void noShareOf() {
        DeckBalance x = Due.made(12, Due.cards(), Due.deck(), Due.deck());
        for (int d : Due.outside(0, 1)) {
            due.is("share(" + d + ", 0)", x.share(d, 0), -2);
            due.is("share(" + d + ", 1)", x.share(d, 1), -2);
        }
        for (int part : Due.outside(0, 1)) {
            due.is("share(0, " + part + ")", x.share(0, part), -2);
        }
        due.is("share without decks", new DeckBalance().share(0, 1), -2);
    }

    /** "NOT: there are no DECKS." */
    private static void liveWithoutDecks() {
        DeckBalance x = new DeckBalance();
        due.is("a new one", x.live(), -3);
        x.card(BLOW, 0, 1);
        due.is("cards alone are not enough", x.live(), -3);
        x.deck();
        due.is("an empty deck is", x.live(), 1);
    }

    /** "its TABLES against all DECKS together". */
    private static void standings() {
        DeckBalance x = Due.made(12, Due.cards(Due.card(BLOW, 1, 1)), Due.deck(), Due.deck(0), Due.deck(0, 0), Due.deck());
        due.is("two lost, one drawn", x.standing(0), -4);
        due.is("two won, one lost", x.standing(1), 2);
        due.is("three won", x.standing(2), 6);
        due.is("as deck 0", x.standing(3), -4);
        x.power(0, 0);
        due.is("all drawn", x.standing(2), 0);
        DeckBalance odd = Due.made(12, Due.cards(Due.card(FIGHTER, 0, 1), Due.card(WALL, 2, 1)), Due.deck(), Due.deck(0), Due.deck(1));
        due.is("2 and 1", odd.standing(1), 3);
        due.is("0 and -1", odd.standing(2), -1);
    }

    private static void leastAndGreatestStanding() {
        DeckBalance x = Due.made(12, Due.cards(Due.card(BLOW, 0, 9)), Due.deck(0), Due.deck(), Due.deck(), Due.deck(), Due.deck());
        due.is("four won", x.standing(0), 8);
        due.is("one lost, three drawn", x.standing(4), -2);
        DeckBalance y = Due.made(12, Due.cards(Due.card(BLOW, 0, 9)), Due.deck(0), Due.deck(0), Due.deck(0), Due.deck(0), Due.deck());
        due.is("four lost", y.standing(4), -8);
        due.is("alone", Due.made(12, Due.cards(Due.card(BLOW, 0, 9)), Due.deck(0, 0)).standing(0), 0);
    }

    /** standing's "The least int: BAD." */
    private static void noStandingOf() {
        DeckBalance x = Due.made(12, Due.cards(), Due.deck(), Due.deck());
        for (int d : Due.outside(0, 1)) {
            due.is("standing(" + d + ")", x.standing(d), Due.LEAST);
        }
        due.is("standing without decks", new DeckBalance().standing(0), Due.LEAST);
    }
}
