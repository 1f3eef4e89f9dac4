import java.util.ArrayList;
import java.util.List;
import java.util.function.Supplier;
import java.util.function.ToLongFunction;

/**
 * All promises: "Refused, and nothing changes, the first that fits: BAD (no such CARD, DECK, place,
 * or a number out of its bounds), NOT (not now: as told), FULL." Each refused call is made on a state
 * of its own, which then shows all that its twin without the call shows.
 */
public final class RefusalsTest {
    private static final int BAD = -2, NOT = -3, FULL = -4, LEAST = Due.LEAST;
    private static final int[] FAR = {-1, Due.LEAST, Due.MOST};
    private static final Due due = new Due();

    public static void main(String[] args) {
        refusedWhenNew();
        refusedWhenFull();
        badDecks();
        badCards();
        badPlaces();
        badNumbers();
        twoReasons();
        askedOnly();
        takenCallsDoChange();
        due.end();
    }

    private static DeckBalance none() {
        return new DeckBalance();
    }

    /** Three cards; decks 0 and 1 with two and one cards, and an empty one. */
    private static DeckBalance some() {
        return Due.made(14, Due.cards(Due.card(0, 1, 3), Due.card(1, 2, 4), Due.card(2, 0, 2)), Due.deck(0, 1), Due.deck(2), Due.deck());
    }

    private static DeckBalance full() {
        DeckBalance x = new DeckBalance();
        for (int c = 0; c < 12; c++) {
            x.card(c % 3, c % 6, (c * 7 + 3) % 10);
        }
        for (int d = 0; d < 5; d++) {
            x.deck();
            for (int i = 0; i < 10; i++) {
                x.add(d, (d * 5 + i * (d + 1)) % 12);
            }
        }
        return x;
    }

    private static void refusedWhenNew() {
        refused("card", RefusalsTest::none, x -> x.card(3, 0, 0), BAD);
        refused("power", RefusalsTest::none, x -> x.power(0, 0), BAD);
        refused("add", RefusalsTest::none, x -> x.add(0, 0), BAD);
        refused("drop", RefusalsTest::none, x -> x.drop(0, 0), BAD);
        refused("swap", RefusalsTest::none, x -> x.swap(0, 0, 0), BAD);
        refused("at", RefusalsTest::none, x -> x.at(0, 0), BAD);
        refused("life", RefusalsTest::none, x -> x.life(4), BAD);
        refused("play", RefusalsTest::none, x -> x.play(0, 0), BAD);
        refused("told", RefusalsTest::none, x -> x.told(0, 0, 0), LEAST);
        refused("table", RefusalsTest::none, x -> x.table(0, 0), LEAST);
        refused("ring", RefusalsTest::none, x -> x.ring(0, 0), BAD);
        refused("share", RefusalsTest::none, x -> x.share(0, 0), BAD);
        refused("live", RefusalsTest::none, x -> x.live(), NOT);
        refused("standing", RefusalsTest::none, x -> x.standing(0), LEAST);
        refused("worth", RefusalsTest::none, x -> x.worth(0, 0), LEAST);
        refused("idle", RefusalsTest::none, x -> x.idle(0, 0), BAD);
        refused("remedy", RefusalsTest::none, x -> x.remedy(1, 1), NOT);
        refused("count", RefusalsTest::none, x -> x.count(4), BAD);
    }

    private static void refusedWhenFull() {
        refused("card", RefusalsTest::full, x -> x.card(0, 0, 0), FULL);
        refused("deck", RefusalsTest::full, x -> x.deck(), FULL);
        for (int d = 0; d < 5; d++) {
            int deck = d;
            refused("add", RefusalsTest::full, x -> x.add(deck, 11), FULL);
            refused("drop", RefusalsTest::full, x -> x.drop(deck, 10), BAD);
            refused("swap", RefusalsTest::full, x -> x.swap(deck, 9, 10), BAD);
        }
        refused("power", RefusalsTest::full, x -> x.power(12, 0), BAD);
        refused("play", RefusalsTest::full, x -> x.play(5, 0), BAD);
        refused("share", RefusalsTest::full, x -> x.share(5, 0), BAD);
    }

    private static void badDecks() {
        for (int deck : new int[] {3, 5, -1, Due.LEAST, Due.MOST}) {
            refused("add", RefusalsTest::some, x -> x.add(deck, 0), BAD);
            refused("drop", RefusalsTest::some, x -> x.drop(deck, 0), BAD);
            refused("swap", RefusalsTest::some, x -> x.swap(deck, 0, 0), BAD);
            refused("at", RefusalsTest::some, x -> x.at(deck, 0), BAD);
            refused("play a", RefusalsTest::some, x -> x.play(deck, 0), BAD);
            refused("play b", RefusalsTest::some, x -> x.play(0, deck), BAD);
            refused("told a", RefusalsTest::some, x -> x.told(deck, 0, 0), LEAST);
            refused("told b", RefusalsTest::some, x -> x.told(0, deck, 0), LEAST);
            refused("table a", RefusalsTest::some, x -> x.table(deck, 0), LEAST);
            refused("table b", RefusalsTest::some, x -> x.table(0, deck), LEAST);
            refused("share", RefusalsTest::some, x -> x.share(deck, 0), BAD);
            refused("standing", RefusalsTest::some, x -> x.standing(deck), LEAST);
            refused("worth", RefusalsTest::some, x -> x.worth(deck, 0), LEAST);
            refused("idle", RefusalsTest::some, x -> x.idle(deck, 0), BAD);
        }
    }

    private static void badCards() {
        for (int card : new int[] {3, 12, -1, Due.LEAST, Due.MOST}) {
            refused("power", RefusalsTest::some, x -> x.power(card, 1), BAD);
            refused("add", RefusalsTest::some, x -> x.add(0, card), BAD);
            refused("worth", RefusalsTest::some, x -> x.worth(0, card), LEAST);
            refused("idle", RefusalsTest::some, x -> x.idle(0, card), BAD);
        }
        refused("worth of a card not in the deck", RefusalsTest::some, x -> x.worth(0, 2), LEAST);
        refused("idle of a card not in the deck", RefusalsTest::some, x -> x.idle(0, 2), NOT);
    }

    private static void badPlaces() {
        for (int place : new int[] {2, 9, 10, -1, Due.LEAST, Due.MOST}) {
            refused("drop", RefusalsTest::some, x -> x.drop(0, place), BAD);
            refused("swap one", RefusalsTest::some, x -> x.swap(0, place, 0), BAD);
            refused("swap two", RefusalsTest::some, x -> x.swap(0, 1, place), BAD);
            refused("at", RefusalsTest::some, x -> x.at(0, place), place < 0 ? BAD : -1);
        }
        refused("drop from an empty deck", RefusalsTest::some, x -> x.drop(2, 0), BAD);
        refused("swap in an empty deck", RefusalsTest::some, x -> x.swap(2, 0, 0), BAD);
        refused("at of an empty deck", RefusalsTest::some, x -> x.at(2, 0), -1);
    }

    private static void badNumbers() {
        badNumber("sort", 3, v -> x -> x.card(v, 0, 0), BAD);
        badNumber("cost", 6, v -> x -> x.card(0, v, 0), BAD);
        badNumber("power of a new card", 10, v -> x -> x.card(0, 0, v), BAD);
        badNumber("power", 10, v -> x -> x.power(1, v), BAD);
        badNumber("life", 41, v -> x -> x.life(v), BAD);
        badNumber("life below its bound", 4, v -> x -> x.life(v), BAD);
        badNumber("told what", 5, v -> x -> x.told(0, 1, v), LEAST);
        badNumber("ring k", 0, v -> x -> x.ring(v, 0), BAD);
        badNumber("ring i", 3, v -> x -> x.ring(0, v), BAD);
        badNumber("part", 2, v -> x -> x.share(0, v), BAD);
        badNumber("remedy u", 0, v -> x -> x.remedy(v, 1), BAD);
        badNumber("remedy u above v", 8, v -> x -> x.remedy(v, 7), BAD);
        badNumber("remedy v", 0, v -> x -> x.remedy(1, v), BAD);
        badNumber("remedy v above its bound", 21, v -> x -> x.remedy(1, v), BAD);
        badNumber("count what", 4, v -> x -> x.count(v), BAD);
    }

    private interface CallWith {
        ToLongFunction<DeckBalance> number(int v);
    }

    private static void badNumber(String call, int justOutside, CallWith with, long want) {
        refused(call + " " + justOutside, RefusalsTest::some, with.number(justOutside), want);
        for (int v : FAR) {
            refused(call + " " + v, RefusalsTest::some, with.number(v), want);
        }
    }

    /** "the first that fits". */
    private static void twoReasons() {
        refused("BAD sort, FULL", RefusalsTest::full, x -> x.card(-1, 0, 0), BAD);
        refused("BAD cost, FULL", RefusalsTest::full, x -> x.card(0, 6, 0), BAD);
        refused("BAD power, FULL", RefusalsTest::full, x -> x.card(0, 0, 10), BAD);
        refused("BAD card, FULL", RefusalsTest::full, x -> x.add(0, 12), BAD);
        refused("BAD deck, the others FULL", RefusalsTest::full, x -> x.add(5, 0), BAD);
        refused("BAD share, NOT", RefusalsTest::none, x -> x.remedy(2, 1), BAD);
        refused("BAD share, NOT", RefusalsTest::none, x -> x.remedy(1, 21), BAD);
        refused("BAD deck, NOT in it", RefusalsTest::some, x -> x.idle(3, 2), BAD);
        refused("BAD card, NOT in an empty deck", RefusalsTest::some, x -> x.idle(2, 3), BAD);
        refused("BAD deck and BAD card", RefusalsTest::some, x -> x.worth(-1, -1), LEAST);
        refused("BAD deck and a place below 0", RefusalsTest::some, x -> x.at(-1, -1), BAD);
        refused("BAD deck and a place behind the last", RefusalsTest::some, x -> x.at(3, 10), BAD);
    }

    /** Calls that only ask change nothing either, though worth, idle and remedy try what would be. */
    private static void askedOnly() {
        for (Supplier<DeckBalance> state : List.<Supplier<DeckBalance>>of(RefusalsTest::some, RefusalsTest::full)) {
            asked("at", state, x -> x.at(0, 1));
            asked("play", state, x -> x.play(0, 1));
            asked("told", state, x -> x.told(1, 0, 3));
            asked("table", state, x -> x.table(0, 1));
            asked("rings", state, x -> x.rings());
            asked("ring", state, x -> x.ring(0, 0));
            asked("share", state, x -> x.share(1, 1));
            asked("live", state, x -> x.live());
            asked("standing", state, x -> x.standing(0));
            asked("worth", state, x -> x.worth(0, x.at(0, 0)));
            asked("idle", state, x -> x.idle(1, x.at(1, 0)));
            asked("remedy", state, x -> x.remedy(1, 1));
            asked("remedy that there is not", state, x -> x.remedy(1, 20));
            asked("count", state, x -> x.count(2));
        }
    }

    /** So that the tests above would see a change. */
    private static void takenCallsDoChange() {
        List<ToLongFunction<DeckBalance>> calls = new ArrayList<>(List.of(
            x -> x.card(0, 0, 0), x -> x.power(0, 4), x -> x.deck(), x -> x.add(0, 0), x -> x.drop(0, 0), x -> x.swap(0, 0, 1), x -> x.life(5)));
        for (ToLongFunction<DeckBalance> call : calls) {
            DeckBalance x = some();
            call.applyAsLong(x);
            due.is("taken call " + calls.indexOf(call) + " shows", shown(x).equals(shown(some())) ? 1 : 0, 0);
        }
    }

    private static void refused(String call, Supplier<DeckBalance> state, ToLongFunction<DeckBalance> made, long want) {
        due.is("refused: " + call, made.applyAsLong(state.get()), want);
        asked("refused: " + call, state, made);
    }

    private static void asked(String call, Supplier<DeckBalance> state, ToLongFunction<DeckBalance> made) {
        String want = shown(state.get());
        DeckBalance x = state.get();
        made.applyAsLong(x);
        due.is(call + " changes nothing", shown(x).equals(want) ? 1 : 0, 1);
        // Once more where answers may be kept from calls ahead of it.
        DeckBalance warm = state.get();
        warm.rings();
        warm.live();
        made.applyAsLong(warm);
        due.is(call + " changes nothing behind other calls", shown(warm).equals(want) ? 1 : 0, 1);
    }

    /** All that calls can tell of a state. */
    private static String shown(DeckBalance x) {
        StringBuilder s = new StringBuilder();
        for (int what = 0; what < 4; what++) {
            s.append(x.count(what)).append(' ');
        }
        s.append(x.rings()).append(' ').append(x.live()).append('\n');
        int decks = x.count(1);
        for (int d = 0; d < decks; d++) {
            for (int place = 0; place <= 10; place++) {
                s.append(x.at(d, place)).append(' ');
            }
            s.append(x.standing(d)).append(' ').append(x.share(d, 0)).append('/').append(x.share(d, 1)).append('\n');
            for (int other = 0; other < decks; other++) {
                for (int what = 0; what < 5; what++) {
                    s.append(x.told(d, other, what)).append(' ');
                }
            }
            s.append('\n');
        }
        int cards = x.count(0);
        for (int c = 0; c < cards; c++) {
            int power = x.power(c, 0);
            x.power(c, power);
            s.append(power).append(' ');
        }
        return s.toString();
    }
}
