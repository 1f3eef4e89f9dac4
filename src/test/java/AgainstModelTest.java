import java.util.Random;

/** Every promise: long runs of calls, right and wrong ones, answered as the plain model answers. */
public final class AgainstModelTest {
    private static final Due due = new Due();
    private final Random random;
    private final String run;
    private final DeckBalance x = new DeckBalance();
    private final PlainModel m = new PlainModel();
    private int calls;

    private AgainstModelTest(int seed) {
        random = new Random(seed);
        run = "run " + seed;
    }

    public static void main(String[] args) {
        int runs = args.length > 0 ? Integer.parseInt(args[0]) : 250;
        for (int seed = 0; seed < runs; seed++) {
            AgainstModelTest one = new AgainstModelTest(seed);
            if (seed % 5 > 0) {
                one.fill();
            }
            while (one.calls < 512) {
                one.change();
                one.ask();
            }
        }
        due.end();
    }

    /** Few cheap cards and short decks: those are beaten by one another most often. */
    private void fill() {
        int cards = 2 + random.nextInt(random.nextBoolean() ? 3 : 11);
        int decks = 1 + random.nextInt(5);
        for (int i = 0; i < cards; i++) {
            card(random.nextInt(3), random.nextInt(6), random.nextInt(10));
        }
        for (int d = 0; d < decks; d++) {
            check("deck()", x.deck(), m.deck());
            int size = random.nextInt(random.nextBoolean() ? 6 : 11);
            for (int i = 0; i < size; i++) {
                add(d, random.nextInt(cards));
            }
        }
    }

    private void change() {
        int d = any(5);
        switch (random.nextInt(9)) {
            case 0: card(any(3), any(6), any(10)); break;
            case 1: case 2: {
                int c = any(m.count(0)), v = any(10);
                check("power(" + c + ", " + v + ")", x.power(c, v), m.power(c, v));
                break;
            }
            case 3: check("deck()", x.deck(), m.deck()); break;
            case 4: case 5: add(d, any(m.count(0))); break;
            case 6: {
                int p = any(10);
                check("drop(" + d + ", " + p + ")", x.drop(d, p), m.drop(d, p));
                break;
            }
            case 7: {
                int p = any(10), q = any(10);
                check("swap(" + d + ", " + p + ", " + q + ")", x.swap(d, p, q), m.swap(d, p, q));
                break;
            }
            default: {
                int v = 5 + any(36);
                check("life(" + v + ")", x.life(v), m.life(v));
            }
        }
    }

    private void ask() {
        for (int k = random.nextInt(12); k > 0; k--) {
            int a = any(m.count(1)), b = any(m.count(1)), c = any(m.count(0)), i = any(5);
            switch (random.nextInt(20)) {
                case 0: check("at(" + a + ", " + i + ")", x.at(a, i), m.at(a, i)); break;
                case 1: check("play(" + a + ", " + b + ")", x.play(a, b), m.play(a, b)); break;
                case 2: case 3: case 4: check("told(" + a + ", " + b + ", " + i + ")", x.told(a, b, i), m.told(a, b, i)); break;
                case 5: case 6: check("table(" + a + ", " + b + ")", x.table(a, b), m.table(a, b)); break;
                case 7: check("rings()", x.rings(), m.rings()); break;
                case 8: check("ring(" + a + ", " + i + ")", x.ring(a, i), m.ring(a, i)); break;
                case 9: case 10: case 11: shares(); break;
                case 12: check("live()", x.live(), m.live()); break;
                case 13: check("standing(" + a + ")", x.standing(a), m.standing(a)); break;
                case 14: case 15: check("worth(" + a + ", " + c + ")", x.worth(a, c), m.worth(a, c)); break;
                case 16: case 17: check("idle(" + a + ", " + c + ")", x.idle(a, c), m.idle(a, c)); break;
                case 18: check("count(" + i + ")", x.count(i), m.count(i)); break;
                default: if (random.nextInt(4) == 0) remedy();
            }
        }
    }

    private void shares() {
        for (int d = -1; d <= m.count(1); d++) {
            for (int part = 0; part <= 2; part++) {
                check("share(" + d + ", " + part + ")", x.share(d, part), m.share(d, part));
            }
        }
    }

    private void remedy() {
        int v = any(21), u = random.nextInt(10) == 0 ? any(21) : 1 + random.nextInt(Math.max(1, v));
        check("remedy(" + u + ", " + v + ")", x.remedy(u, v), m.remedy(u, v));
    }

    private void card(int sort, int cost, int power) {
        check("card(" + sort + ", " + cost + ", " + power + ")", x.card(sort, cost, power), m.card(sort, cost, power));
    }

    private void add(int d, int c) {
        check("add(" + d + ", " + c + ")", x.add(d, c), m.add(d, c));
    }

    /** Mostly 0 .. n - 1, at times just outside, seldom far outside. */
    private int any(int n) {
        int kind = random.nextInt(60);
        if (kind == 0) return -1;
        if (kind == 1) return n;
        if (kind == 2) return random.nextInt();
        return random.nextInt(Math.max(1, n));
    }

    private void check(String call, long got, long want) {
        calls++;
        // What later calls answer is free.
        if (calls > 512) {
            return;
        }
        due.is(run + ", call " + calls + ": " + call, got, want);
    }
}
