import java.util.List;
import java.util.function.ToLongFunction;

/** "An object is used for at most 512 calls after it has been made": the 512th of each kind is still answered as due. */
public final class LastCallTest {
    private static final int CALLS = 512, MADE_BY = 1 + 3 + 3 + 7;
    private static final Due due = new Due();

    public static void main(String[] args) {
        List<ToLongFunction<DeckBalance>> last = List.of(
            x -> x.card(0, 1, 1), x -> x.power(1, 0), x -> x.deck(), x -> x.add(0, 0), x -> x.drop(0, 2), x -> x.swap(0, 0, 2),
            x -> x.at(0, 2), x -> x.life(40), x -> x.play(0, 1), x -> x.told(0, 1, 1), x -> x.table(2, 0), x -> x.rings(),
            x -> x.ring(0, 1), x -> x.share(2, 1), x -> x.live(), x -> x.standing(0), x -> x.worth(1, 0), x -> x.idle(0, 2),
            x -> x.remedy(1, 1), x -> x.count(2));
        long[] want = {3, 3, 3, 4, 1, 1, 1, 29, 1, 29, 2, 1, 1, 3, 3, 0, 4, 0, 4, 7};
        for (int k = 0; k < want.length; k++) {
            due.is("early call " + k, last.get(k).applyAsLong(ring()), want[k]);
            due.is("512th call " + k + " behind changes", last.get(k).applyAsLong(changedOften()), want[k]);
            due.is("512th call " + k + " behind refusals", last.get(k).applyAsLong(refusedOften()), want[k]);
        }
        due.end();
    }

    /** Deck 0 beats 1, that one 2, that one 0. */
    private static DeckBalance ring() {
        return Due.made(29, Due.cards(Due.card(0, 3, 5), Due.card(2, 2, 3), Due.card(1, 0, 1)),
            Due.deck(2, 1, 1), Due.deck(0), Due.deck(2, 2, 1));
    }

    /** Every change is taken back, so that the last call finds what was made at first. */
    private static DeckBalance changedOften() {
        DeckBalance x = ring();
        int calls = MADE_BY;
        for (; calls + 9 < CALLS; calls += 9) {
            x.add(0, 0);
            x.drop(0, 3);
            x.swap(0, 0, 2);
            x.swap(0, 2, 0);
            x.power(0, 6);
            x.share(0, 0);
            x.power(0, 5);
            x.life(30);
            x.life(29);
        }
        for (; calls < CALLS - 1; calls++) {
            x.remedy(1, 20);
        }
        return x;
    }

    private static DeckBalance refusedOften() {
        DeckBalance x = ring();
        for (int calls = MADE_BY; calls < CALLS - 1; calls++) {
            x.card(3, 0, 0);
        }
        return x;
    }
}
