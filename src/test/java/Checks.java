/** What the tests by promise share: checks of answers, and games brought to a certain state. */
class Checks {
    static final int INVALID = -1000001;
    static final int NOT_POSSIBLE = -1000002;
    static final int LIMIT = -1000003;
    static final int NOT_FOUND = -1000004;
    static final int DECK = 0;
    static final int HAND = 1;
    static final int PLAYED = 2;
    static final int DISCARDS = 3;

    private static int wrong = 0;
    private static int checks = 0;
    /** Told with each answer that is not the one that is due. */
    static String about = "";

    static void due(String what, long got, long want) {
        checks++;
        if (got != want) {
            wrong++;
            System.out.println(about + what + " answered " + got + ", due is " + want);
        }
    }

    static void holds(String what, boolean so) {
        due(what, so ? 1 : 0, 1);
    }

    static void finish() {
        System.out.println(wrong == 0 ? checks + " checks hold" : wrong + " of " + checks + " checks fail");
        if (wrong != 0) {
            System.exit(1);
        }
    }

    static void cards(String what, TurningShop x, int player, int where, int... kinds) {
        due(what + ": how many of player " + player + " at " + where, x.many(player, where, 10), kinds.length);
        for (int i = 0; i < kinds.length; i++) {
            due(what + ": card(" + player + ", " + where + ", " + i + ")", x.card(player, where, i), kinds[i]);
        }
        due(what + ": the card behind the last one", x.card(player, where, kinds.length), NOT_FOUND);
    }

    // ---- games

    /** A new game behind some moves, which are told as in {@link #moves}. */
    static TurningShop game(String moves) {
        TurningShop x = new TurningShop();
        moves(x, moves);
        return x;
    }

    /**
     * Moves between spaces, each of them possible: p, x (a place), b (a kind), e, g (players), u (undo), s (the
     * value of the setting) and a (ends of turns alike, more than 20 also, in calls of at most 20).
     */
    static void moves(TurningShop x, String moves) {
        for (String move : moves.trim().split(" +")) {
            if (!move.isEmpty()) {
                int number = move.length() > 1 ? Integer.parseInt(move.substring(1)) : 0;
                holds("the move " + move + " of " + moves, move(x, move.charAt(0), number) >= 0);
            }
        }
    }

    private static int move(TurningShop x, char letter, int number) {
        switch (letter) {
            case 'p': return x.play(number);
            case 'b': return x.buy(number);
            case 'x': return x.scrap(number);
            case 'e': return x.end();
            case 'g': return x.begin(number);
            case 's': return x.set(0, number);
            case 'u': return x.undo();
            default: return alike(x, number) == number ? number : NOT_POSSIBLE;
        }
    }

    /** How many turns were ended, which the game's end can make fewer. */
    static int alike(TurningShop x, int turns) {
        int ended = 0;
        while (ended < turns && x.count(2) == 0) {
            ended += x.alike(Math.min(20, turns - ended));
        }
        return ended;
    }

    /** The first place of a kind in the hand; it asks no further, for an object has but 512 calls. */
    static int placeOf(TurningShop x, int kind) {
        int player = x.turn(0);
        for (int place = 0; x.card(player, HAND, place) >= 0; place++) {
            if (x.card(player, HAND, place) == kind) {
                return place;
            }
        }
        return -1;
    }

    /** Plays all cards of the hand that are played freely. */
    static void payUp(TurningShop x) {
        int player = x.turn(0);
        for (int place = 0; x.card(player, HAND, place) >= 0;) {
            if (x.card(player, HAND, place) > 2 || x.play(place) < 0) {
                place++;
            }
        }
    }

    /** Ends the turn so that the row begins with a kind then. */
    static void endWithRow(TurningShop x, int first) {
        x.set(0, (first - x.turn(6) + 10) % 10);
        x.end();
        x.set(0, 0);
    }

    static TurningShop gameOverByManors() {
        TurningShop x = new TurningShop();
        x.set(0, 0);
        x.alike(20);
        due("turns up to the end", x.alike(20), 8);
        due("over", x.count(2), 1);
        return x;
    }

    // ---- texts

    static void write(TurningShop x, String text) {
        x.clearText();
        for (int i = 0; i < text.length(); i++) {
            due("type of " + text, x.type(text.charAt(i)), i + 1);
        }
    }

    static void fault(String text, int position, int reason, int cause) {
        fault(new TurningShop(), text, position, reason, cause);
    }

    static void fault(TurningShop x, String text, int position, int reason, int cause) {
        write(x, text);
        int states = x.count(6);
        due("fault(0) of " + text, x.fault(0), position);
        due("fault(1) of " + text, x.fault(1), reason);
        due("fault(2) of " + text, x.fault(2), cause);
        due("perform() of " + text, x.perform(), NOT_POSSIBLE);
        due("states behind " + text, x.count(6), states);
    }

    static void noFault(TurningShop x, String text) {
        write(x, text);
        for (int what = 0; what < 3; what++) {
            due("fault(" + what + ") of " + text, x.fault(what), NOT_FOUND);
        }
    }
}
