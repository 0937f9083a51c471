/**
 * Far more calls on one object than the document promises answers for, with any arguments: none of them may throw
 * (rule 7 of LANGUAGE.md), no card may get lost, and each must lie where cards lie.
 */
public final class EndlessTest extends Checks {
    private static final int OBJECTS = 12;
    private static final int CALLS = 40000;
    private static final int CALLS_BETWEEN_LOOKS = 50;
    private static final int ALL_CARDS = 164;

    private static long seed;

    private static int below(int n) {
        seed = seed * 6364136223846793005L + 1442695040888963407L;
        return (int) ((seed >>> 33) % n);
    }

    /** Mostly a small number, as most ranges are; now and then any number at all. */
    private static int any() {
        switch (below(30)) {
            case 0: return Integer.MIN_VALUE + below(3);
            case 1: return Integer.MAX_VALUE - below(3);
            case 2: return below(1 << 30) - (1 << 29);
            case 3: return below(130);
            default: return below(9) - 1;
        }
    }

    private static int call(TurningShop x) {
        switch (below(34)) {
            case 0: return below(200) == 0 ? x.begin(any()) : x.begin(5);
            case 1: case 2: case 3: case 4: case 5: case 6: return x.play(any());
            case 7: case 8: case 9: return x.buy(any() + below(2));
            case 10: case 11: return x.scrap(any());
            case 12: case 13: return x.end();
            case 14: return x.alike(any());
            case 15: return x.set(below(4) == 0 ? any() : 0, any());
            case 16: return x.card(any(), any(), any());
            case 17: return x.many(any(), any(), any());
            case 18: return x.points(any());
            case 19: return x.kindOf(any(), any());
            case 20: return x.turn(any());
            case 21: return x.purse();
            case 22: return x.outcome(any());
            case 23: return x.advice(any());
            case 24: return x.wealth(any());
            case 25: return x.count(any());
            case 26: return x.undo();
            case 27: return below(6) == 0 ? x.clearText() : x.type(any());
            case 28: case 29: return typeOrder(x);
            case 30: case 31: return x.fault(any());
            default: return x.perform();
        }
    }

    private static int typeOrder(TurningShop x) {
        String letters = "ppbxe";
        x.type(letters.charAt(below(letters.length())));
        if (below(3) > 0) {
            x.type('0' + below(10));
        }
        return x.type(';');
    }

    private static void look(TurningShop x) {
        int all = x.count(5) + x.count(4);
        for (int player = 0; player < x.count(0); player++) {
            int cards = 0;
            for (int where = DECK; where <= DISCARDS; where++) {
                int many = x.many(player, where, 10);
                for (int i = 0; i < many; i++) {
                    int kind = x.card(player, where, i);
                    holds("a kind is " + kind, kind >= 0 && kind < 10);
                }
                due("the card behind the last one", x.card(player, where, many), NOT_FOUND);
                cards += many;
            }
            due("cards of a player in all", cards, x.many(player, 4, 10));
            all += cards;
        }
        due("cards in piles, of players and scrapped", all, ALL_CARDS);
        holds("states", x.count(6) >= 0 && x.count(6) <= 4);
        holds("length of the text", x.count(7) >= 0 && x.count(7) <= 60);
    }

    public static void main(String[] args) {
        int gamesOver = 0;
        for (int number = 0; number < OBJECTS; number++) {
            seed = number * 104729L + 5;
            TurningShop x = new TurningShop();
            x.begin(2 + number % 3);
            for (int i = 0; i < CALLS; i++) {
                call(x);
                if (i % CALLS_BETWEEN_LOOKS == 0) {
                    about = "object " + number + ", call " + i + ": ";
                    look(x);
                    if (x.count(2) == 1) {
                        gamesOver++;
                        x.begin(2 + below(3));
                    }
                }
            }
        }
        about = "";
        holds("games came to their end", gamesOver > OBJECTS);
        finish();
    }
}
