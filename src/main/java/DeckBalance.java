/**
 * Decks in balance: cards with costs and powers, decks played against one another
 * by one told rule, and the mix of decks that no deck beats, as exact shares.
 */
public final class DeckBalance {
    public static final int NONE = -1, BAD = -2, NOT = -3, FULL = -4;

    private static final int LEAST_INT = -2147483648;
    private static final int MOST_CARDS = 12, MOST_DECKS = 5, MOST_PLACES = 10;
    private static final int FIGHTER = 0, BLOW = 1, WALL = 2;
    private static final int MOST_COST = 5, MOST_POWER = 9;
    private static final int LEAST_LIFE = 5, MOST_LIFE = 40, FIRST_LIFE = 12;
    private static final int LAST_TURN = 12, MOST_ENERGY = 6;
    private static final int MOST_BELOW = 20;
    private static final int RING_DECKS = 3;

    private final CardBook book;
    private final Deck[] decks;
    private final Game game;
    private final Contest now;
    private final Contest trial;
    private final Rings found;
    private final Plan lessened;
    private final int[] lessenedTables;
    private int deckCount;
    private int startLife;
    private boolean tablesKnown;
    private boolean mixKnown;

    public DeckBalance() {
        book = new CardBook();
        decks = new Deck[MOST_DECKS];
        for (int i = 0; i < MOST_DECKS; i++) {
            decks[i] = new Deck();
        }
        game = new Game(book);
        now = new Contest();
        trial = new Contest();
        found = new Rings();
        lessened = new Plan();
        lessenedTables = new int[MOST_DECKS];
        startLife = FIRST_LIFE;
    }

    // ---- cards, decks

    public int card(int sort, int cost, int power) {
        if (isOutside(sort, FIGHTER, WALL) || isOutside(cost, 0, MOST_COST) || isOutside(power, 0, MOST_POWER)) {
            return BAD;
        }
        return book.enter(sort, cost, power);
    }

    public int power(int card, int v) {
        if (isNoCard(card) || isOutside(v, 0, MOST_POWER)) {
            return BAD;
        }
        int before = book.powers[card];
        book.powers[card] = v;
        forgetTables();
        return before;
    }

    public int deck() {
        if (deckCount >= MOST_DECKS) {
            return FULL;
        }
        deckCount++;
        forgetTables();
        return deckCount - 1;
    }

    public int add(int deck, int card) {
        if (isNoDeck(deck) || isNoCard(card)) {
            return BAD;
        }
        int size = decks[deck].append(card);
        if (size != FULL) {
            forgetTables();
        }
        return size;
    }

    public int drop(int deck, int place) {
        if (isNoDeck(deck) || isNoPlace(deck, place)) {
            return BAD;
        }
        int card = decks[deck].takeOut(place);
        forgetTables();
        return card;
    }

    public int swap(int deck, int one, int two) {
        if (isNoDeck(deck) || isNoPlace(deck, one) || isNoPlace(deck, two)) {
            return BAD;
        }
        decks[deck].exchange(one, two);
        forgetTables();
        return 1;
    }

    public int at(int deck, int place) {
        if (isNoDeck(deck) || place < 0) {
            return BAD;
        }
        return isNoPlace(deck, place) ? NONE : decks[deck].cards[place];
    }

    public int life(int v) {
        if (isOutside(v, LEAST_LIFE, MOST_LIFE)) {
            return BAD;
        }
        int before = startLife;
        startLife = v;
        forgetTables();
        return before;
    }

    // ---- games

    public int play(int a, int b) {
        if (isNoDeck(a) || isNoDeck(b)) {
            return BAD;
        }
        learnTables();
        return game.resultOf(now.plans[a], now.plans[b], startLife);
    }

    public int told(int a, int b, int what) {
        if (isNoDeck(a) || isNoDeck(b) || isOutside(what, 0, 4)) {
            return LEAST_INT;
        }
        learnTables();
        game.resultOf(now.plans[a], now.plans[b], startLife);
        switch (what) {
            case 0:
                return game.turn;
            case 1:
                return game.first.life;
            case 2:
                return game.second.life;
            case 3:
                return game.first.played;
            default:
                return game.second.played;
        }
    }

    public int table(int a, int b) {
        if (isNoDeck(a) || isNoDeck(b)) {
            return LEAST_INT;
        }
        learnTables();
        return now.tables[a][b];
    }

    public int rings() {
        learnTables();
        return found.size;
    }

    public int ring(int k, int i) {
        learnTables();
        if (isOutside(k, 0, found.size - 1) || isOutside(i, 0, RING_DECKS - 1)) {
            return BAD;
        }
        return found.decks[RING_DECKS * k + i];
    }

    // ---- the mix

    public long share(int deck, int part) {
        if (isNoDeck(deck) || isOutside(part, 0, 1)) {
            return BAD;
        }
        learnMix();
        int above = now.mix.parts[deck];
        int below = now.mix.whole;
        int common = greatestDivisor(above, below);
        // There is always a MIX, so below is above 0; a divisor is looked at all the same.
        if (common == 0) {
            return BAD;
        }
        return (part == 0 ? above : below) / common;
    }

    public int live() {
        if (deckCount == 0) {
            return NOT;
        }
        learnMix();
        int above = 0;
        for (int i = 0; i < deckCount; i++) {
            if (now.mix.parts[i] > 0) {
                above++;
            }
        }
        return above;
    }

    public int standing(int deck) {
        if (isNoDeck(deck)) {
            return LEAST_INT;
        }
        learnTables();
        return sumOf(now.tables[deck]);
    }

    public int worth(int deck, int card) {
        if (isNoDeck(deck) || isNoCard(card) || decks[deck].firstPlaceOf(card) == NONE) {
            return LEAST_INT;
        }
        learnTables();
        learnTablesWithout(deck, card);
        return sumOf(now.tables[deck]) - sumOf(lessenedTables);
    }

    public int idle(int deck, int card) {
        if (isNoDeck(deck) || isNoCard(card)) {
            return BAD;
        }
        if (decks[deck].firstPlaceOf(card) == NONE) {
            return NOT;
        }
        learnTables();
        learnTablesWithout(deck, card);
        for (int other = 0; other < deckCount; other++) {
            if (lessenedTables[other] != now.tables[deck][other]) {
                return 0;
            }
        }
        return 1;
    }

    public int remedy(int u, int v) {
        if (isOutside(v, 1, MOST_BELOW) || isOutside(u, 1, v)) {
            return BAD;
        }
        if (deckCount == 0) {
            return NOT;
        }
        learnMix();
        for (int change = 1; change <= MOST_POWER; change++) {
            for (int card = 0; card < book.size; card++) {
                int lesser = book.powers[card] - change;
                int greater = book.powers[card] + change;
                if (lesser >= 0 && isMixWithin(u, v, card, lesser)) {
                    return 10 * card + lesser;
                }
                if (greater <= MOST_POWER && isMixWithin(u, v, card, greater)) {
                    return 10 * card + greater;
                }
            }
        }
        return NONE;
    }

    public int count(int what) {
        switch (what) {
            case 0:
                return book.size;
            case 1:
                return deckCount;
            case 2:
                return cardsInDecks();
            case 3:
                return startLife;
            default:
                return BAD;
        }
    }

    // ---- what is looked at ahead of an answer

    private static boolean isOutside(int v, int least, int most) {
        return v < least || v > most;
    }

    private boolean isNoCard(int card) {
        return isOutside(card, 0, book.size - 1);
    }

    private boolean isNoDeck(int deck) {
        return isOutside(deck, 0, deckCount - 1);
    }

    private boolean isNoPlace(int deck, int place) {
        return isOutside(place, 0, decks[deck].size - 1);
    }

    private int cardsInDecks() {
        int sum = 0;
        for (int i = 0; i < deckCount; i++) {
            sum += decks[i].size;
        }
        return sum;
    }

    /** Of a row of TABLES, one for each DECK. */
    private int sumOf(int[] row) {
        int sum = 0;
        for (int i = 0; i < deckCount; i++) {
            sum += row[i];
        }
        return sum;
    }

    private static int greatestDivisor(int one, int two) {
        int a = one;
        int b = two;
        // Euclid halves an int every two steps: 64 are more than enough.
        for (int step = 0; step < 64 && b != 0; step++) {
            int rest = a % b;
            a = b;
            b = rest;
        }
        return a;
    }

    // ---- what follows from cards, decks and life, kept until one of them changes

    private void forgetTables() {
        tablesKnown = false;
        mixKnown = false;
    }

    private void learnTables() {
        if (tablesKnown) {
            return;
        }
        for (int a = 0; a < deckCount; a++) {
            now.plans[a].lay(book, decks[a], NONE);
        }
        for (int a = 0; a < deckCount; a++) {
            for (int b = a + 1; b < deckCount; b++) {
                now.enter(a, b, tableOf(now.plans[a], now.plans[b]));
            }
        }
        found.find(now.tables, deckCount);
        tablesKnown = true;
    }

    private void learnMix() {
        learnTables();
        if (!mixKnown) {
            now.mix.find(now.tables, deckCount);
            mixKnown = true;
        }
    }

    private int tableOf(Plan a, Plan b) {
        return game.resultOf(a, b, startLife) - game.resultOf(b, a, startLife);
    }

    /** The DECK's TABLES if the first of the CARD were not in it; against itself that stays 0. */
    private void learnTablesWithout(int deck, int card) {
        lessened.lay(book, decks[deck], decks[deck].firstPlaceOf(card));
        for (int other = 0; other < deckCount; other++) {
            lessenedTables[other] = other == deck ? 0 : tableOf(lessened, now.plans[other]);
        }
    }

    /** Whether THE MIX would give no DECK more than u / v if the CARD had that POWER. */
    private boolean isMixWithin(int u, int v, int card, int power) {
        int before = book.powers[card];
        book.powers[card] = power;
        learnTrialTables(card);
        book.powers[card] = before;
        if (trial.hasTablesOf(now, deckCount)) {
            return now.mix.isWithin(u, v);
        }
        trial.mix.find(trial.tables, deckCount);
        return trial.mix.isWithin(u, v);
    }

    /** Only games with the CARD can go another way than now: the other TABLES are taken over. */
    private void learnTrialTables(int card) {
        for (int a = 0; a < deckCount; a++) {
            if (hasCard(a, card)) {
                trial.plans[a].lay(book, decks[a], NONE);
            }
        }
        for (int a = 0; a < deckCount; a++) {
            for (int b = a + 1; b < deckCount; b++) {
                boolean isTouched = hasCard(a, card) || hasCard(b, card);
                trial.enter(a, b, isTouched ? tableOf(trialPlan(a, card), trialPlan(b, card)) : now.tables[a][b]);
            }
        }
    }

    private Plan trialPlan(int deck, int card) {
        return hasCard(deck, card) ? trial.plans[deck] : now.plans[deck];
    }

    private boolean hasCard(int deck, int card) {
        return decks[deck].firstPlaceOf(card) != NONE;
    }

    /** What each CARD is. */
    private static final class CardBook {
        final int[] sorts = new int[MOST_CARDS];
        final int[] costs = new int[MOST_CARDS];
        final int[] powers = new int[MOST_CARDS];
        int size;

        int enter(int sort, int cost, int power) {
            if (size >= MOST_CARDS) {
                return FULL;
            }
            sorts[size] = sort;
            costs[size] = cost;
            powers[size] = power;
            size++;
            return size - 1;
        }

        boolean isPlayedAhead(int one, int two) {
            if (costs[one] != costs[two]) {
                return costs[one] > costs[two];
            }
            if (powers[one] != powers[two]) {
                return powers[one] > powers[two];
            }
            return one < two;
        }
    }

    /** A row of CARDS in the order in which they are drawn. */
    private static final class Deck {
        final int[] cards = new int[MOST_PLACES];
        int size;

        int append(int card) {
            if (size >= MOST_PLACES) {
                return FULL;
            }
            cards[size] = card;
            size++;
            return size;
        }

        int takeOut(int place) {
            int card = cards[place];
            for (int i = place + 1; i < size; i++) {
                cards[i - 1] = cards[i];
            }
            size--;
            return card;
        }

        void exchange(int one, int two) {
            int card = cards[one];
            cards[one] = cards[two];
            cards[two] = card;
        }

        int firstPlaceOf(int card) {
            for (int i = 0; i < size; i++) {
                if (cards[i] == card) {
                    return i;
                }
            }
            return NONE;
        }
    }

    /**
     * The CARDS that a DECK plays, in their order. What one draws and plays hangs on nothing
     * that the other one does, so one plan serves for all GAMES of the DECK, first or second.
     */
    private static final class Plan {
        final int[] order = new int[MOST_PLACES];
        /** How many of the order are played by the end of each TURN. */
        final int[] ends = new int[LAST_TURN + 1];
        private final int[] hand = new int[MOST_PLACES];
        private int handSize;
        private int drawn;
        private int played;

        /** The card at the place leftOut is passed over as if it were not in the DECK. */
        void lay(CardBook book, Deck deck, int leftOut) {
            handSize = 0;
            drawn = 0;
            played = 0;
            draw(deck, leftOut);
            for (int turn = 1; turn <= LAST_TURN; turn++) {
                draw(deck, leftOut);
                playHand(book, Math.min(turn, MOST_ENERGY));
                ends[turn] = played;
            }
        }

        private void draw(Deck deck, int leftOut) {
            if (drawn == leftOut) {
                drawn++;
            }
            if (drawn < deck.size) {
                hand[handSize] = deck.cards[drawn];
                handSize++;
                drawn++;
            }
        }

        private void playHand(CardBook book, int energyAtFirst) {
            int energy = energyAtFirst;
            for (int k = 0; k < MOST_PLACES; k++) {
                int place = nextPlace(book, energy);
                if (place == NONE) {
                    return;
                }
                energy -= book.costs[hand[place]];
                putDown(place);
            }
        }

        private int nextPlace(CardBook book, int energy) {
            int best = NONE;
            for (int i = 0; i < handSize; i++) {
                if (book.costs[hand[i]] <= energy && (best == NONE || book.isPlayedAhead(hand[i], hand[best]))) {
                    best = i;
                }
            }
            return best;
        }

        private void putDown(int place) {
            order[played] = hand[place];
            played++;
            // The hand's own order never matters, so the last card may fill the gap.
            handSize--;
            hand[place] = hand[handSize];
        }
    }

    /** One of the two in a GAME. */
    private static final class Side {
        int life;
        int played;
        private int attack;
        private int wall;

        void begin(int startLife) {
            life = startLife;
            played = 0;
            attack = 0;
            wall = 0;
        }

        /** Makes a MOVE; whether the other one has lost by it. */
        boolean defeats(Side other, Plan plan, CardBook book, int turn) {
            other.life -= Math.max(0, attack - other.wall);
            int end = plan.ends[turn];
            for (int k = plan.ends[turn - 1]; k < end && other.life > 0; k++) {
                put(other, plan.order[k], book);
            }
            return other.life <= 0;
        }

        private void put(Side other, int card, CardBook book) {
            played++;
            switch (book.sorts[card]) {
                case FIGHTER:
                    attack += book.powers[card];
                    break;
                case BLOW:
                    other.life -= book.powers[card];
                    break;
                default:
                    wall += book.powers[card];
                    break;
            }
        }
    }

    /** A GAME of two plans, and how the last one went. */
    private static final class Game {
        final Side first = new Side();
        final Side second = new Side();
        int turn;
        private final CardBook book;

        Game(CardBook book) {
            this.book = book;
        }

        int resultOf(Plan a, Plan b, int startLife) {
            first.begin(startLife);
            second.begin(startLife);
            for (int t = 1; t <= LAST_TURN; t++) {
                turn = t;
                if (first.defeats(second, a, book, t) || second.defeats(first, b, book, t)) {
                    break;
                }
            }
            // Whoever has lost has 0 or less and the other one more: LIFE alone tells the RESULT.
            return Integer.compare(first.life, second.life);
        }
    }

    /** The DECKS' plans, the TABLES and THE MIX that follow from one state of the CARDS. */
    private static final class Contest {
        final Plan[] plans = new Plan[MOST_DECKS];
        final int[][] tables = new int[MOST_DECKS][MOST_DECKS];
        final Mix mix = new Mix();

        Contest() {
            for (int i = 0; i < MOST_DECKS; i++) {
                plans[i] = new Plan();
            }
        }

        void enter(int a, int b, int value) {
            tables[a][b] = value;
            tables[b][a] = -value;
        }

        boolean hasTablesOf(Contest other, int size) {
            for (int a = 0; a < size; a++) {
                for (int b = a + 1; b < size; b++) {
                    if (tables[a][b] != other.tables[a][b]) {
                        return false;
                    }
                }
            }
            return true;
        }
    }

    /** The RINGS in their order. */
    private static final class Rings {
        /** Three DECKS are a ring in one direction at most, and 5 DECKS hold 10 threes. */
        final int[] decks = new int[10 * RING_DECKS];
        int size;

        void find(int[][] tables, int deckCount) {
            size = 0;
            for (int a = 0; a < deckCount; a++) {
                for (int b = a + 1; b < deckCount; b++) {
                    findThird(tables, deckCount, a, b);
                }
            }
        }

        private void findThird(int[][] tables, int deckCount, int a, int b) {
            for (int c = a + 1; c < deckCount; c++) {
                if (tables[a][b] > 0 && tables[b][c] > 0 && tables[c][a] > 0) {
                    decks[RING_DECKS * size] = a;
                    decks[RING_DECKS * size + 1] = b;
                    decks[RING_DECKS * size + 2] = c;
                    size++;
                }
            }
        }
    }

    /**
     * THE MIX: shares as whole parts of a whole.
     *
     * All that HOLD are the points of a polytope, and the greatest of them in the order of DECKS
     * is a corner of it. At a corner some DECKS are live, and against one DECK fewer the sum is
     * just 0, so that these sums tell the shares but for a factor: they are, with signs in turn,
     * the minors of TABLE that leave out one live DECK each. So all such choices are tried.
     * Sets of DECKS are the bits of an int.
     */
    private static final class Mix {
        private static final int SETS = 1 << MOST_DECKS;

        final int[] parts = new int[MOST_DECKS];
        int whole;
        private final int[] tried = new int[MOST_DECKS];
        private int triedWhole;
        /** By the set of rows, then the set of columns; only sets with as many in them. */
        private final int[] minors = new int[SETS * SETS];
        private int size;

        void find(int[][] tables, int deckCount) {
            size = deckCount;
            whole = 0;
            findMinors(tables);
            int sets = 1 << size;
            for (int live = 1; live < sets; live++) {
                int wanted = Integer.bitCount(live) - 1;
                for (int even = 0; even < sets; even++) {
                    if (Integer.bitCount(even) == wanted && tryCorner(live, even) && isHolding(tables) && isGreater()) {
                        takeTried();
                    }
                }
            }
        }

        boolean isWithin(int u, int v) {
            for (int i = 0; i < size; i++) {
                if (parts[i] * v > u * whole) {
                    return false;
                }
            }
            return true;
        }

        private void findMinors(int[][] tables) {
            int sets = 1 << size;
            minors[0] = 1;
            for (int rows = 1; rows < sets; rows++) {
                int wanted = Integer.bitCount(rows);
                for (int columns = 1; columns < sets; columns++) {
                    if (Integer.bitCount(columns) == wanted) {
                        minors[rows * SETS + columns] = minorOf(tables, rows, columns);
                    }
                }
            }
        }

        /** By its least column; the smaller minors are known, since their sets are lesser numbers. */
        private int minorOf(int[][] tables, int rows, int columns) {
            int column = leastOf(columns);
            int others = columns & (columns - 1);
            int sign = 1;
            int sum = 0;
            for (int row = 0; row < size; row++) {
                if (isIn(rows, row)) {
                    sum += sign * tables[row][column] * minors[(rows ^ (1 << row)) * SETS + others];
                    sign = -sign;
                }
            }
            return sum;
        }

        private int leastOf(int set) {
            int least = 0;
            while (least < size - 1 && !isIn(set, least)) {
                least++;
            }
            return least;
        }

        private static boolean isIn(int set, int i) {
            return (set >> i & 1) == 1;
        }

        /** Tries the live DECKS that are even against the others; whether that is a MIX. */
        private boolean tryCorner(int live, int even) {
            int sign = 1;
            boolean isAnyAbove = false;
            boolean isAnyBelow = false;
            triedWhole = 0;
            for (int i = 0; i < size; i++) {
                tried[i] = 0;
                if (isIn(live, i)) {
                    tried[i] = sign * minors[(live ^ (1 << i)) * SETS + even];
                    sign = -sign;
                }
                isAnyAbove = isAnyAbove || tried[i] > 0;
                isAnyBelow = isAnyBelow || tried[i] < 0;
                triedWhole += tried[i];
            }
            if (isAnyBelow) {
                turnSigns();
            }
            return isAnyAbove != isAnyBelow;
        }

        private void turnSigns() {
            for (int i = 0; i < size; i++) {
                tried[i] = -tried[i];
            }
            triedWhole = -triedWhole;
        }

        private boolean isHolding(int[][] tables) {
            for (int against = 0; against < size; against++) {
                int sum = 0;
                for (int i = 0; i < size; i++) {
                    sum += tried[i] * tables[i][against];
                }
                if (sum < 0) {
                    return false;
                }
            }
            return true;
        }

        private boolean isGreater() {
            if (whole == 0) {
                return true;
            }
            for (int i = 0; i < size; i++) {
                int more = tried[i] * whole - parts[i] * triedWhole;
                if (more != 0) {
                    return more > 0;
                }
            }
            return false;
        }

        private void takeTried() {
            for (int i = 0; i < size; i++) {
                parts[i] = tried[i];
            }
            whole = triedWhole;
        }
    }
}
