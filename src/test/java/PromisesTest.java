import java.lang.reflect.Constructor;
import java.lang.reflect.Field;
import java.lang.reflect.Method;
import java.lang.reflect.Modifier;
import java.util.ArrayList;
import java.util.List;
import java.util.Map;
import java.util.TreeMap;

/** Each promise of the document: ordinary inputs, the edges it names, wrong inputs. */
public final class PromisesTest extends Checks {
    private static final int[] WRONG = {-1, Integer.MIN_VALUE, Integer.MAX_VALUE};

    /** Buys only a kind of 6 to 9 and shillings until a player on turn has so many of the kind in the hand. */
    private static TurningShop withInHand(int players, int kind, int howMany) {
        TurningShop x = new TurningShop();
        x.begin(players);
        endWithRow(x, 6);
        for (int i = 0; i < 40; i++) {
            if (x.many(x.turn(0), HAND, kind) >= howMany) {
                return x;
            }
            payUp(x);
            if (x.buy(kind) < 0) {
                x.buy(1);
            }
            x.end();
        }
        due("some turn with " + howMany + " of " + kind + " in the hand", 0, 1);
        return x;
    }

    /** Player 1's turn, with a forge, a field and three pennies in the hand, the row from 5 on. */
    private static TurningShop withForge() {
        TurningShop x = new TurningShop();
        x.set(0, 3);
        x.end();
        payUp(x);
        due("a forge for four coins", x.buy(8), 7);
        x.end();
        x.end();
        x.end();
        due("player 1 again", x.end(), 1);
        return x;
    }

    private static void constants() {
        due("INVALID_ARGUMENT", TurningShop.INVALID_ARGUMENT, INVALID);
        due("NOT_POSSIBLE", TurningShop.NOT_POSSIBLE, NOT_POSSIBLE);
        due("LIMIT_REACHED", TurningShop.LIMIT_REACHED, LIMIT);
        due("NOT_FOUND", TurningShop.NOT_FOUND, NOT_FOUND);
    }

    private static void face() {
        Map<String, Integer> expected = new TreeMap<>();
        for (String name : "end purse undo clearText perform".split(" ")) expected.put(name, 0);
        for (String name : "begin play buy scrap alike points turn outcome advice wealth count type fault".split(" ")) expected.put(name, 1);
        for (String name : "set kindOf".split(" ")) expected.put(name, 2);
        for (String name : "card many".split(" ")) expected.put(name, 3);
        Map<String, Integer> found = new TreeMap<>();
        for (Method m : TurningShop.class.getDeclaredMethods()) {
            if (Modifier.isPublic(m.getModifiers())) {
                found.put(m.getName(), m.getParameterCount());
                due("int is what returns " + m, m.getReturnType() == int.class && !Modifier.isStatic(m.getModifiers()) ? 1 : 0, 1);
            } else {
                due("private is " + m, Modifier.isPrivate(m.getModifiers()) && !expected.containsKey(m.getName()) ? 1 : 0, 1);
            }
        }
        due("the face's methods " + found, found.equals(expected) ? 1 : 0, 1);
        int constants = 0;
        for (Field f : TurningShop.class.getDeclaredFields()) {
            constants += Modifier.isPublic(f.getModifiers()) ? 1 : 0;
            due("public or private is " + f, Modifier.isPublic(f.getModifiers()) || Modifier.isPrivate(f.getModifiers()) ? 1 : 0, 1);
        }
        due("public constants", constants, 4);
        for (Constructor<?> c : TurningShop.class.getDeclaredConstructors()) {
            due("public without arguments is " + c, Modifier.isPublic(c.getModifiers()) && c.getParameterCount() == 0 ? 1 : 0, 1);
        }
        due("final and public", TurningShop.class.getModifiers(), Modifier.PUBLIC | Modifier.FINAL);
    }

    private static void promise1NewObject() {
        TurningShop x = new TurningShop();
        for (int player = 0; player < 2; player++) {
            cards("new", x, player, DECK, 3, 0, 0, 3, 0);
            cards("new", x, player, HAND, 0, 0, 3, 0, 0);
            cards("new", x, player, PLAYED);
            cards("new", x, player, DISCARDS);
        }
        int[] piles = {46, 20, 12, 18, 6, 10, 8, 8, 8, 8};
        for (int kind = 0; kind < 10; kind++) {
            due("new pile " + kind, x.kindOf(kind, 1), piles[kind]);
        }
        int[] turn = {0, 0, 1, 1, 0, 33, 0};
        for (int what = 0; what < 7; what++) {
            due("new turn " + what, x.turn(what), turn[what]);
        }
        int[] counts = {2, 0, 0, 0, 0, 144, 0, 0};
        for (int what = 0; what < 8; what++) {
            due("new count " + what, x.count(what), counts[what]);
        }
        due("new setting 0", x.count(20), 1);
    }

    private static void promise2Begin() {
        TurningShop x = withForge();
        x.play(0);
        x.scrap(0);
        int states = x.count(6);
        for (int players : new int[] {0, 1, 5, -1, Integer.MIN_VALUE, Integer.MAX_VALUE}) {
            due("begin(" + players + ")", x.begin(players), INVALID);
        }
        due("a begin that is an error changes nothing", x.count(6) - states + x.count(4), 1);
        due("begin(3)", x.begin(3), 39);
        due("players", x.count(0), 3);
        due("ended turns", x.count(1), 0);
        due("scrapped", x.count(4), 0);
        due("scrapped fields", x.kindOf(3, 3), 0);
        due("cards in piles", x.count(5), 134);
        due("setting 0 stays", x.count(20), 3);
        due("player", x.turn(0), 0);
        due("actions", x.turn(3), 1);
        due("scraps", x.turn(4), 0);
        due("first kind of the row", x.turn(6), 0);
        cards("begun", x, 2, DECK, 3, 0, 0, 3, 0);
        cards("begun", x, 2, HAND, 0, 0, 3, 0, 0);
        cards("begun", x, 1, PLAYED);
        due("begin(4)", x.begin(4), 32);
        due("begin(2)", x.begin(2), 46);
        due("cards in piles", x.count(5), 144);
        TurningShop over = gameOverByManors();
        due("begin when the game is over", over.begin(2), 46);
        due("not over", over.count(2), 0);
    }

    private static void promise3Play() {
        TurningShop x = new TurningShop();
        for (int place : new int[] {-1, 5, Integer.MIN_VALUE, Integer.MAX_VALUE}) {
            due("play(" + place + ")", x.play(place), INVALID);
        }
        due("a field is not played", x.play(2), NOT_POSSIBLE);
        due("states", x.count(6), 0);
        due("play(4)", x.play(4), 0);
        due("states", x.count(6), 1);
        cards("played one", x, 0, HAND, 0, 0, 3, 0);
        cards("played one", x, 0, PLAYED, 0);
        due("coins", x.turn(1), 1);
        due("no action is used", x.turn(3), 1);
        due("play(4) now", x.play(4), INVALID);

        x = withForge();
        cards("forge", x, 1, HAND, 8, 3, 0, 0, 0);
        due("play the forge", x.play(0), 8);
        due("actions", x.turn(3), 1);
        due("scraps", x.turn(4), 1);
        due("coins", x.turn(1), 0);
        due("buys", x.turn(2), 1);

        x = new TurningShop();
        x.set(0, 4);
        x.end();
        payUp(x);
        due("a scout for three of four coins", x.buy(9), 7);
        x.end();
        x.end();
        x.end();
        x.end();
        cards("scout", x, 1, HAND, 9, 3, 0, 0, 0);
        cards("scout", x, 1, DECK, 0, 3, 0, 0, 3, 0);
        due("play the scout", x.play(0), 9);
        cards("scout", x, 1, HAND, 3, 0, 0, 0, 0, 3);
        cards("scout", x, 1, DECK, 0, 0, 3, 0);
        cards("scout", x, 1, PLAYED, 9);
        due("actions", x.turn(3), 1);
        playWitch();
        playWitchWithFewCurses();
        playMarket();
        playWithoutAction();
        TurningShop over = gameOverByManors();
        due("play when the game is over", over.play(0), NOT_POSSIBLE);
        due("play of no card then", over.play(5), INVALID);
    }

    private static void playWitch() {
        for (int players = 2; players <= 4; players++) {
            TurningShop x = withInHand(players, 6, 1);
            int me = x.turn(0);
            int hand = x.many(me, HAND, 10);
            int[] discards = new int[players];
            for (int i = 0; i < players; i++) {
                discards[i] = x.many(i, DISCARDS, 10);
            }
            due("play the witch", x.play(placeOf(x, 6)), 6);
            due("two cards for the witch", x.many(me, HAND, 10), hand + 1);
            due("curses left", x.kindOf(5, 1), 10 - (players - 1));
            due("no action left", x.turn(3), 0);
            for (int i = 0; i < players; i++) {
                due("curses of player " + i, x.many(i, 4, 5), i == me ? 0 : 1);
                if (i != me) {
                    due("curse at the end of the discards", x.card(i, DISCARDS, discards[i]), 5);
                }
            }
        }
    }

    /** With two curses left, four players: the two behind the one who plays get them. */
    private static void playWitchWithFewCurses() {
        TurningShop x = withInHand(4, 6, 1);
        int me = x.turn(0);
        endWithRow(x, 0);
        for (int i = 0; i < 8; i++) {
            due("buy curses", x.buy(5), 9 - i);
            x.end();
        }
        for (int i = 0; i < 40 && (x.turn(0) != me || placeOf(x, 6) < 0); i++) {
            x.end();
        }
        int[] curses = new int[4];
        for (int i = 0; i < 4; i++) {
            curses[i] = x.many(i, 4, 5);
        }
        due("play the witch", x.play(placeOf(x, 6)), 6);
        due("curses left", x.kindOf(5, 1), 0);
        for (int step = 0; step < 4; step++) {
            int player = (me + step) % 4;
            int more = x.many(player, 4, 5) - curses[player];
            due("curses of the player " + step + " behind", more, step == 1 || step == 2 ? 1 : 0);
        }
    }

    private static void playMarket() {
        TurningShop x = withInHand(2, 7, 1);
        int hand = x.many(x.turn(0), HAND, 10);
        due("play the market", x.play(placeOf(x, 7)), 7);
        due("coins", x.turn(1), 1);
        due("buys", x.turn(2), 2);
        due("actions", x.turn(3), 1);
        due("scraps", x.turn(4), 0);
        due("cards", x.many(x.turn(0), HAND, 10), hand);
        due("buy a penny", x.buy(0), 45);
        due("buy another one", x.buy(0), 44);
        due("no third one", x.buy(0), NOT_POSSIBLE);
    }

    private static void playWithoutAction() {
        TurningShop x = withInHand(2, 6, 2);
        due("the first witch", x.play(placeOf(x, 6)), 6);
        int states = x.count(6);
        int hand = x.many(x.turn(0), HAND, 10);
        due("no action for the second one", x.play(placeOf(x, 6)), NOT_POSSIBLE);
        due("states", x.count(6), states);
        due("hand", x.many(x.turn(0), HAND, 10), hand);
    }

    private static void promise4Buy() {
        TurningShop x = new TurningShop();
        for (int kind : new int[] {-1, 10, Integer.MIN_VALUE, Integer.MAX_VALUE}) {
            due("buy(" + kind + ")", x.buy(kind), INVALID);
        }
        due("too dear", x.buy(3), NOT_POSSIBLE);
        payUp(x);
        due("not in the row", x.buy(9), NOT_POSSIBLE);
        due("too dear", x.buy(2), NOT_POSSIBLE);
        int states = x.count(6);
        due("buy(1)", x.buy(1), 19);
        due("states", x.count(6), states < 4 ? states + 1 : 4);
        due("coins", x.turn(1), 1);
        due("buys", x.turn(2), 0);
        cards("bought", x, 0, DISCARDS, 1);
        due("no buy", x.buy(0), NOT_POSSIBLE);
        x.end();
        due("a curse costs nothing", x.buy(5), 9);
        cards("bought", x, 1, DISCARDS, 5);
        x = new TurningShop();
        x.set(0, 0);
        for (int i = 9; i >= 0; i--) {
            due("buy curses", x.buy(5), i);
            x.end();
        }
        due("the pile is empty", x.buy(5), NOT_POSSIBLE);
        TurningShop over = gameOverByManors();
        due("buy when the game is over", over.buy(0), NOT_POSSIBLE);
        due("buy(10) then", over.buy(10), INVALID);
    }

    private static void promise5Scrap() {
        TurningShop x = withForge();
        due("no scrap yet", x.scrap(0), NOT_POSSIBLE);
        due("no card", x.scrap(5), INVALID);
        x.play(0);
        for (int place : new int[] {-1, 4, Integer.MIN_VALUE, Integer.MAX_VALUE}) {
            due("scrap(" + place + ")", x.scrap(place), INVALID);
        }
        int mine = x.many(1, 4, 10);
        int inPiles = x.count(5);
        due("scrap(0)", x.scrap(0), 3);
        cards("scrapped", x, 1, HAND, 0, 0, 0);
        cards("scrapped", x, 1, PLAYED, 8);
        due("out of the game", x.many(1, 4, 10), mine - 1);
        due("in no pile", x.count(5), inPiles);
        due("the other player keeps all", x.many(0, 4, 10), 10);
        due("scraps", x.turn(4), 0);
        due("scrap again", x.scrap(0), NOT_POSSIBLE);
        due("scrapped", x.count(4), 1);
        due("scrapped fields", x.kindOf(3, 3), 1);
        due("scrapped pennies", x.kindOf(0, 3), 0);
        TurningShop over = gameOverByManors();
        due("scrap when the game is over", over.scrap(0), NOT_POSSIBLE);
        due("scrap of no card then", over.scrap(30), INVALID);
    }

    private static void promise6End() {
        TurningShop x = new TurningShop();
        x.play(1);
        x.play(3);
        x.buy(0);
        due("end()", x.end(), 1);
        cards("ended", x, 0, DISCARDS, 0, 0, 3, 0, 0, 0);
        cards("ended", x, 0, HAND, 3, 0, 0, 3, 0);
        cards("ended", x, 0, DECK);
        cards("ended", x, 0, PLAYED);
        int[] turn = {1, 0, 1, 1, 0, 32, 1};
        for (int what = 0; what < 7; what++) {
            due("turn " + what, x.turn(what), turn[what]);
        }
        due("ended turns", x.count(1), 1);
        due("end()", x.end(), 0);
        x.play(1);
        x.end();
        cards("discards became the deck", x, 0, HAND, 0, 0, 3, 0, 0);
        cards("discards became the deck", x, 0, DECK, 0, 3, 0, 3, 0, 0);
        endWithThreePiles();
        x = gameOverByManors();
        due("over by manors alone", x.count(3), 1);
        due("no manor left", x.kindOf(4, 1), 0);
        due("ended turns", x.count(1), 28);
        due("the next player is on turn, too", x.turn(0), 0);
        due("end when the game is over", x.end(), NOT_POSSIBLE);
        TurningShop row = new TurningShop();
        row.set(0, 7);
        row.end();
        due("row", row.turn(6), 7);
        row.end();
        due("row", row.turn(6), 4);
    }

    /** Curses, pennies and fields are bought up by four players; the third pile ends the game. */
    private static void endWithThreePiles() {
        TurningShop x = new TurningShop();
        x.begin(4);
        x.set(0, 0);
        int bought = 0;
        for (int i = 0; i < 42; i++) {
            bought += x.buy(i < 10 ? 5 : 0) >= 0 ? 1 : 0;
            due("end of turn " + i, x.end(), (i + 1) % 4);
        }
        due("bought", bought, 42);
        due("two piles are empty", x.count(3), 2);
        due("not over by two piles", x.count(2), 0);
        for (int i = 0; i < 40 && x.kindOf(3, 1) > 0; i++) {
            for (int place = placeOf(x, 0); place >= 0 && x.turn(1) < 2; place = placeOf(x, 0)) {
                x.play(place);
            }
            int before = x.kindOf(3, 1);
            if (x.buy(3) == 0) {
                break;
            }
            due("fields", x.kindOf(3, 1), x.turn(1) >= 2 ? before : x.kindOf(3, 1));
            due("not over", x.count(2), 0);
            x.end();
        }
        due("three piles are empty", x.count(3), 3);
        due("not over within the turn", x.count(2), 0);
        int next = (x.turn(0) + 1) % 4;
        due("the end of it", x.end(), next);
        due("over then", x.count(2), 1);
    }

    private static void promise7Alike() {
        TurningShop x = new TurningShop();
        for (int turns : new int[] {0, -1, 21, Integer.MIN_VALUE, Integer.MAX_VALUE}) {
            due("alike(" + turns + ")", x.alike(turns), INVALID);
        }
        due("states", x.count(6), 0);
        due("alike(1)", x.alike(1), 1);
        due("states", x.count(6), 1);
        due("player", x.turn(0), 1);
        cards("four coins buy the shilling", x, 0, DISCARDS, 1, 3, 0, 0, 0, 0);
        due("alike(3)", x.alike(3), 3);
        due("one change", x.count(6), 2);
        due("ended turns", x.count(1), 4);
        x = new TurningShop();
        x.play(0);
        x.buy(5);
        x.alike(1);
        cards("the turn goes on as it is", x, 0, DISCARDS, 5, 3, 0, 0, 0, 0);
        due("nothing else is bought", x.many(0, 4, 10), 11);
        x = new TurningShop();
        x.set(0, 3);
        x.end();
        x.alike(1);
        due("of price 4 and 3 the dearer one", x.card(1, DISCARDS, 0), 8);
        x = new TurningShop();
        x.set(0, 4);
        x.end();
        x.set(0, 0);
        x.alike(1);
        due("the forge again", x.card(1, DISCARDS, 0), 8);
        x = withForge();
        x.alike(1);
        due("scraps are not used", x.count(4), 0);
        cards("a scout for three pennies, the hand, then the played", x, 1, DISCARDS, 9, 3, 8, 0, 0, 0);
        x = gameOverByManors();
        due("alike when the game is over", x.alike(1), NOT_POSSIBLE);
        due("alike(21) then", x.alike(21), INVALID);
        highestKindOfAPrice();
        actionsAlike();
    }

    /** The row from 9 on has the scout and the shilling, which cost 3 both, but no kind for 4. */
    private static void highestKindOfAPrice() {
        TurningShop x = new TurningShop();
        x.set(0, 9);
        x.end();
        due("row from 9", x.turn(6), 9);
        x.alike(1);
        due("the higher kind of the same price", x.card(1, DISCARDS, 0), 9);
    }

    private static void actionsAlike() {
        TurningShop x = withInHand(2, 6, 2);
        int me = x.turn(0);
        x.alike(1);
        due("one action, one witch", x.many(1 - me, 4, 5), 1);
        x = withInHand(2, 7, 1);
        me = x.turn(0);
        cards("market", x, me, HAND, 0, 0, 7, 3, 1);
        due("the penny that the market draws", x.card(me, DECK, 0), 0);
        x.alike(1);
        cards("for six coins the highest kind of price 5; the market first, then the rest", x, me, DISCARDS, 7, 3, 7, 0, 0, 1, 0);
        x = new TurningShop();
        x.set(0, 5);
        x.end();
        x.set(0, 0);
        for (int i = 0; i < 3; i++) {
            due("a penny or a curse is never bought", x.alike(1), 1);
        }
        due("pennies", x.kindOf(0, 1), 46);
        due("curses", x.kindOf(5, 1), 10);
    }

    private static void promise8Set() {
        TurningShop x = new TurningShop();
        for (int value : new int[] {-1, 10, Integer.MIN_VALUE, Integer.MAX_VALUE}) {
            due("set(0, " + value + ")", x.set(0, value), INVALID);
        }
        for (int what : new int[] {-1, 1, 20, Integer.MIN_VALUE, Integer.MAX_VALUE}) {
            due("set(" + what + ", 1)", x.set(what, 1), INVALID);
        }
        due("states", x.count(6), 0);
        due("set(0, 9)", x.set(0, 9), 1);
        due("set(0, 0)", x.set(0, 0), 9);
        due("set(0, 0)", x.set(0, 0), 0);
        due("states", x.count(6), 3);
        due("setting", x.count(20), 0);
        x.end();
        due("the row stays", x.turn(6), 0);
        x.undo();
        x.undo();
        x.undo();
        due("the setting is undone", x.count(20), 9);
        due("set when over", gameOverByManors().set(0, 5), 0);
    }

    private static void promise9Card() {
        TurningShop x = new TurningShop();
        for (int bad : WRONG) {
            due("card of player " + bad, x.card(bad, 0, 0), INVALID);
            due("card where " + bad, x.card(0, bad, 0), INVALID);
        }
        due("player 2", x.card(2, 0, 0), INVALID);
        due("where 4", x.card(0, 4, 0), INVALID);
        due("index -1", x.card(0, 0, -1), INVALID);
        due("least index", x.card(0, 0, Integer.MIN_VALUE), INVALID);
        due("most index", x.card(0, 0, Integer.MAX_VALUE), NOT_FOUND);
        due("invalid rather than not found", x.card(2, 0, 9), INVALID);
        due("behind the deck", x.card(1, 0, 5), NOT_FOUND);
        due("the deck's last", x.card(1, 0, 4), 0);
        due("no discards", x.card(1, 3, 0), NOT_FOUND);
        x.begin(4);
        due("player 3", x.card(3, 1, 2), 3);
        x.begin(2);
        due("player 3 is gone", x.card(3, 1, 2), INVALID);
    }

    private static void promise10Many() {
        TurningShop x = new TurningShop();
        for (int bad : WRONG) {
            due("many of player " + bad, x.many(bad, 0, 0), INVALID);
            due("many where " + bad, x.many(0, bad, 0), INVALID);
            due("many kind " + bad, x.many(0, 0, bad), INVALID);
        }
        due("player 2", x.many(2, 0, 0), INVALID);
        due("where 5", x.many(0, 5, 0), INVALID);
        due("kind 11", x.many(0, 0, 11), INVALID);
        x.play(0);
        x.play(0);
        x.play(1);
        x.buy(3);
        due("fields in the deck", x.many(0, 0, 3), 2);
        due("pennies in the deck", x.many(0, 0, 0), 3);
        due("fields in the hand", x.many(0, 1, 3), 1);
        due("cards in the hand", x.many(0, 1, 10), 2);
        due("played pennies", x.many(0, 2, 0), 3);
        due("played fields", x.many(0, 2, 3), 0);
        due("discards", x.many(0, 3, 10), 1);
        due("fields in all", x.many(0, 4, 3), 4);
        due("pennies in all", x.many(0, 4, 0), 7);
        due("in all", x.many(0, 4, 10), 11);
        due("curses in all", x.many(0, 4, 5), 0);
        due("the other player", x.many(1, 4, 10), 10);
    }

    private static void promise11Points() {
        TurningShop x = new TurningShop();
        for (int bad : WRONG) {
            due("points(" + bad + ")", x.points(bad), INVALID);
        }
        due("points(2)", x.points(2), INVALID);
        due("points(0)", x.points(0), 103);
        x.buy(5);
        due("with a curse", x.points(0), 102);
        x.end();
        payUp(x);
        x.buy(3);
        due("with a field", x.points(1), 104);
        due("and the other's", x.points(0), 102);
        TurningShop over = gameOverByManors();
        due("six manors", over.many(0, 4, 4) + over.many(1, 4, 4), 6);
        due("points with manors", over.points(0), 100 + 6 * over.many(0, 4, 4) + over.many(0, 4, 3));
        due("points with manors", over.points(1), 100 + 6 * over.many(1, 4, 4) + over.many(1, 4, 3));
    }

    private static void promise12KindOf() {
        TurningShop x = new TurningShop();
        for (int bad : new int[] {-1, 10, Integer.MIN_VALUE, Integer.MAX_VALUE}) {
            due("kindOf(" + bad + ", 0)", x.kindOf(bad, 0), INVALID);
        }
        for (int bad : new int[] {-1, 5, Integer.MIN_VALUE, Integer.MAX_VALUE}) {
            due("kindOf(0, " + bad + ")", x.kindOf(0, bad), INVALID);
        }
        int[] prices = {0, 3, 6, 2, 8, 0, 5, 5, 4, 3};
        int[] whys = {0, 5, 5, 5, 5, 0, 2, 2, 2, 2};
        for (int kind = 0; kind < 10; kind++) {
            due("price of " + kind, x.kindOf(kind, 0), prices[kind]);
            due("in the row " + kind, x.kindOf(kind, 2), kind < 6 ? 1 : 0);
            due("scrapped " + kind, x.kindOf(kind, 3), 0);
            due("why not " + kind, x.kindOf(kind, 4), whys[kind]);
        }
        x.set(0, 7);
        x.end();
        for (int kind = 0; kind < 10; kind++) {
            due("in the row from 7 on " + kind, x.kindOf(kind, 2), kind < 3 || kind > 6 ? 1 : 0);
        }
        x.buy(0);
        due("no buy rather than too few coins", x.kindOf(1, 4), 4);
        due("not in the row rather than no buy", x.kindOf(5, 4), 2);
        x = new TurningShop();
        x.set(0, 0);
        for (int i = 0; i < 10; i++) {
            x.buy(5);
            x.end();
        }
        x.buy(0);
        due("empty pile rather than no buy", x.kindOf(5, 4), 3);
        due("in the row, though empty", x.kindOf(5, 2), 1);
        x.set(0, 6);
        x.end();
        due("not in the row rather than empty", x.kindOf(5, 4), 2);
        TurningShop over = gameOverByManors();
        for (int kind = 0; kind < 10; kind++) {
            due("the game is over", over.kindOf(kind, 4), 1);
        }
    }

    private static void promise13Turn() {
        TurningShop x = new TurningShop();
        for (int bad : new int[] {-1, 7, Integer.MIN_VALUE, Integer.MAX_VALUE}) {
            due("turn(" + bad + ")", x.turn(bad), INVALID);
        }
        payUp(x);
        due("coins", x.turn(1), 4);
        due("kinds to buy for 4", x.turn(5), 1 | 2 | 8 | 32);
        x.buy(3);
        due("coins", x.turn(1), 2);
        due("buys", x.turn(2), 0);
        due("no kind without a buy", x.turn(5), 0);
        x.set(0, 9);
        x.end();
        due("player", x.turn(0), 1);
        due("first kind", x.turn(6), 9);
        due("kinds to buy for 0", x.turn(5), 1);
        due("no kind when over", gameOverByManors().turn(5), 0);
    }

    private static void promise14Purse() {
        TurningShop x = new TurningShop();
        due("purse", x.purse(), 4);
        x.play(0);
        due("the same with a card played", x.purse(), 4);
        payUp(x);
        due("all played", x.purse(), 4);
        x.buy(3);
        due("less what was paid", x.purse(), 2);
        x.end();
        due("the other's", x.purse(), 4);
        x = withInHand(2, 7, 1);
        int me = x.turn(0);
        int free = x.many(me, HAND, 0) + 2 * x.many(me, HAND, 1) + 3 * x.many(me, HAND, 2);
        due("the market is not played freely", x.purse(), free);
        x.play(placeOf(x, 7));
        free = x.many(me, HAND, 0) + 2 * x.many(me, HAND, 1) + 3 * x.many(me, HAND, 2);
        due("but its coin counts when it was played", x.purse(), free + 1);
        x = withInHand(2, 1, 1);
        me = x.turn(0);
        due("a shilling counts two", x.purse(), x.many(me, HAND, 0) + 2 * x.many(me, HAND, 1));
    }

    private static void promise15Outcome() {
        TurningShop x = new TurningShop();
        for (int bad : new int[] {-1, 5, Integer.MIN_VALUE, Integer.MAX_VALUE}) {
            due("outcome(" + bad + ")", x.outcome(bad), INVALID);
        }
        boolean[] won = new boolean[2];
        for (int setting = 0; setting < 10; setting++) {
            x = new TurningShop();
            x.set(0, setting);
            int winner = x.outcome(0);
            int points = x.outcome(1);
            int turns = x.outcome(2);
            int over = x.outcome(3);
            int curses = x.outcome(4);
            due("outcome changes nothing", x.count(6) * 1000 + x.count(1), 1000);
            int ended = 0;
            while (ended < 60 && x.count(2) == 0) {
                ended += x.alike(Math.min(20, 60 - ended));
            }
            due("turns, setting " + setting, turns, ended);
            due("over, setting " + setting, over, x.count(2));
            due("curses, setting " + setting, curses, x.kindOf(5, 1));
            due("points, setting " + setting, points, Math.max(x.points(0), x.points(1)));
            due("winner, setting " + setting, winner, x.points(1) > x.points(0) ? 1 : 0);
            won[winner] = true;
        }
        due("player 0 wins with some setting, player 1 with another one", won[0] && won[1] ? 1 : 0, 1);
        due("setting 6: 60 turns", ended(6), 60);
        due("setting 0: 28 turns", ended(0), 28);
        x = gameOverByManors();
        due("no turn when over", x.outcome(2), 0);
        due("over when over", x.outcome(3), 1);
        x = new TurningShop();
        x.begin(4);
        x.set(0, 0);
        due("of several the lowest", x.outcome(0), 0);
        due("the points of several", x.outcome(1), 116);
        for (int i = 0; i < 3; i++) {
            x.alike(20);
        }
        due("two players have as many", x.points(0) * 1000 + x.points(1), 116116);
    }

    private static int ended(int setting) {
        TurningShop x = new TurningShop();
        x.set(0, setting);
        return x.outcome(2);
    }

    private static void promise16Advice() {
        TurningShop x = new TurningShop();
        for (int bad : new int[] {-1, 2, Integer.MIN_VALUE, Integer.MAX_VALUE}) {
            due("advice(" + bad + ")", x.advice(bad), INVALID);
        }
        due("advice(0)", x.advice(0), 10);
        due("advice(1)", x.advice(1), 125);
        due("advice changes nothing", x.count(6), 0);
        for (int setting = 0; setting < 10; setting++) {
            for (int players = 2; players <= 4; players++) {
                x = new TurningShop();
                x.begin(players);
                x.set(0, setting);
                x.alike(3 + setting);
                payUp(x);
                adviceByTrying(x, players + " players, setting " + setting);
            }
        }
        x = new TurningShop();
        x.buy(5);
        due("nothing can be bought", x.turn(5), 0);
        due("advice(0) then", x.advice(0), NOT_FOUND);
        due("advice(1) then", x.advice(1), NOT_FOUND);
        due("advice(2) then", x.advice(2), INVALID);
        x = gameOverByManors();
        due("advice when over", x.advice(0), NOT_FOUND);
    }

    private static int tried(TurningShop x, int kind) {
        int me = x.turn(0);
        int undos = 0;
        if (kind < 10) {
            x.buy(kind);
            undos++;
        }
        for (int i = 0; i < 3 && x.count(2) == 0; i++) {
            x.alike(20);
            undos++;
        }
        int points = x.points(me);
        for (int i = 0; i < undos; i++) {
            x.undo();
        }
        return points;
    }

    private static void adviceByTrying(TurningShop x, String what) {
        int best = -1;
        int most = -1;
        int bits = x.turn(5);
        due("something can be bought, " + what, bits != 0 ? 1 : 0, 1);
        int advised = x.advice(0);
        int reached = x.advice(1);
        for (int kind = 0; kind <= 10; kind++) {
            if (kind == 10 || (bits >> kind & 1) != 0) {
                int points = tried(x, kind);
                if (points > most) {
                    most = points;
                    best = kind;
                }
            }
        }
        due("advice(0), " + what, advised, best);
        due("advice(1), " + what, reached, most);
    }

    private static void promise17Wealth() {
        TurningShop x = new TurningShop();
        for (int bad : new int[] {-1, 2, Integer.MIN_VALUE, Integer.MAX_VALUE}) {
            due("wealth(" + bad + ")", x.wealth(bad), INVALID);
        }
        due("7 / 10", x.wealth(0), Float.floatToIntBits(0.7f));
        x.buy(5);
        due("7 / 11", x.wealth(0), Float.floatToIntBits(7f / 11f));
        x.end();
        payUp(x);
        x.buy(1);
        due("9 / 11", x.wealth(1), Float.floatToIntBits(9f / 11f));
        x = gameOverByManors();
        for (int player = 0; player < 2; player++) {
            int coins = x.many(player, 4, 0) + 2 * x.many(player, 4, 1) + 3 * x.many(player, 4, 2) + x.many(player, 4, 7);
            due("crowns, too", x.wealth(player), Float.floatToIntBits((float) coins / (float) x.many(player, 4, 10)));
        }
        due("crowns", x.many(0, 4, 2) > 0 ? 1 : 0, 1);
        poorPlayer();
        richPlayer();
    }

    /** Player 0 buys forges, then crowns, and scraps the fields and pennies: the mean goes above 2. */
    private static void richPlayer() {
        TurningShop x = new TurningShop();
        endWithRow(x, 8);
        x.end();
        int cards = 10;
        int coins = 7;
        int forges = 0;
        List<Integer> hand = new ArrayList<>();
        for (int round = 0; round < 32 && coins < 2 * cards + 1; round++) {
            hand.clear();
            read(x, hand);
            while (hand.contains(8)) {
                hand.remove(Integer.valueOf(x.play(hand.indexOf(8))));
                int worst = hand.contains(3) ? 3 : 0;
                if (hand.contains(worst)) {
                    hand.remove(Integer.valueOf(x.scrap(hand.indexOf(worst))));
                    coins -= worst == 0 ? 1 : 0;
                    cards--;
                }
            }
            for (int kind = 0; kind < 3; kind++) {
                playAll(x, hand, kind);
            }
            int kind = x.turn(1) >= 6 ? 2 : x.turn(1) >= 4 && forges < 2 ? 8 : 1;
            if (x.buy(kind) >= 0) {
                cards++;
                coins += kind == 8 ? 0 : kind + 1;
                forges += kind == 8 ? 1 : 0;
            }
            due(coins + " / " + cards, x.wealth(0), Float.floatToIntBits((float) coins / (float) cards));
            x.end();
            x.end();
        }
        due("above 2 with " + coins + " / " + cards, coins > 2 * cards ? 1 : 0, 1);
    }

    /** Nothing but pennies is bought, so the mean nears 1; with curses it falls far below. */
    private static void poorPlayer() {
        TurningShop x = new TurningShop();
        x.set(0, 0);
        for (int i = 0; i < 10; i++) {
            x.buy(i % 2 == 0 ? 5 : 0);
            x.end();
        }
        due("7 / 15", x.wealth(0), Float.floatToIntBits(7f / 15f));
        due("12 / 15", x.wealth(1), Float.floatToIntBits(12f / 15f));
    }

    private static void promise18Count() {
        TurningShop x = new TurningShop();
        for (int bad : new int[] {-1, 8, 19, 21, Integer.MIN_VALUE, Integer.MAX_VALUE}) {
            due("count(" + bad + ")", x.count(bad), INVALID);
        }
        x.begin(3);
        due("players", x.count(0), 3);
        due("cards in all piles", x.count(5), 134);
        x.buy(5);
        due("cards in all piles", x.count(5), 133);
        x.end();
        due("turns", x.count(1), 1);
        due("states", x.count(6), 3);
        x.type('e');
        due("text", x.count(7), 1);
        due("text is no change", x.count(6), 3);
        x.end();
        x.end();
        x.end();
        due("at most 4 states", x.count(6), 4);
        due("over", x.count(2), 0);
        TurningShop over = gameOverByManors();
        due("over", over.count(2), 1);
        due("empty piles", over.count(3), 1);
        due("turns", over.count(1), 28);
    }

    private static void promise19Undo() {
        TurningShop x = new TurningShop();
        due("nothing to undo", x.undo(), NOT_POSSIBLE);
        for (int i = 1; i <= 6; i++) {
            x.end();
        }
        for (int i = 3; i >= 0; i--) {
            due("undo()", x.undo(), i);
            due("turns then", x.count(1), i + 2);
            due("row then", x.turn(6), i + 2);
        }
        due("the oldest ones were dropped", x.undo(), NOT_POSSIBLE);
        due("turns", x.count(1), 2);
        x = withForge();
        x.play(0);
        x.scrap(0);
        x.type('q');
        due("undo the scrap", x.undo(), 3);
        cards("undone", x, 1, HAND, 3, 0, 0, 0);
        due("scraps", x.turn(4), 1);
        due("scrapped", x.count(4), 0);
        due("the text stays", x.count(7), 1);
        due("undo the forge", x.undo(), 2);
        due("actions", x.turn(3), 1);
        due("scraps", x.turn(4), 0);
        cards("undone", x, 1, HAND, 8, 3, 0, 0, 0);
        cards("undone", x, 1, PLAYED);
        x.begin(4);
        due("undo the begin", x.undo(), 2);
        due("players", x.count(0), 2);
        cards("undone", x, 1, HAND, 8, 3, 0, 0, 0);
        due("no player 2", x.points(2), INVALID);
        x = new TurningShop();
        x.buy(0);
        x.undo();
        due("pile", x.kindOf(0, 1), 46);
        due("buys", x.turn(2), 1);
        cards("undone", x, 0, DISCARDS);
        x = gameOverByManors();
        x.undo();
        due("not over", x.count(2), 0);
        due("again", x.alike(20), 8);
    }

    private static void promise20Type() {
        TurningShop x = new TurningShop();
        for (int bad : new int[] {31, 127, -1, 0, 256 + 'e', Integer.MIN_VALUE, Integer.MAX_VALUE}) {
            due("type(" + bad + ")", x.type(bad), INVALID);
        }
        for (int i = 1; i <= 60; i++) {
            due("type number " + i, x.type(i % 2 == 0 ? 32 : 126), i);
        }
        due("no more room", x.type(32), LIMIT);
        due("invalid rather than no room", x.type(127), INVALID);
        due("length", x.count(7), 60);
        due("no change", x.count(6), 0);
    }

    private static void promise21ClearText() {
        TurningShop x = new TurningShop();
        due("clearText()", x.clearText(), 0);
        write(x, "e;e;q");
        due("clearText()", x.clearText(), 5);
        due("length", x.count(7), 0);
        due("clearText()", x.clearText(), 0);
        due("no fault", x.fault(0), NOT_FOUND);
        due("type(101)", x.type(101), 1);
        due("no change", x.count(6), 0);
    }

    private static void promise22Fault() {
        TurningShop x = new TurningShop();
        for (int bad : new int[] {-1, 3, Integer.MIN_VALUE, Integer.MAX_VALUE}) {
            due("fault(" + bad + ")", x.fault(bad), INVALID);
        }
        noFault(x, "");
        noFault(x, "p0;p00;p1;p01;b1;e;g3;g04;e;");
        noFault(x, "e;e;e;e;e;e;e;e;e;e;e;e;e;e;e;e;e;e;e;e;e;e;e;e;e;e;e;e;e;e;");
        fault("q", 0, 1, 0);
        fault(" e;", 0, 1, 0);
        fault("P0;", 0, 1, 0);
        fault(";", 0, 1, 0);
        fault("0;", 0, 1, 0);
        fault("e", 0, 1, 1);
        fault("e0;", 0, 1, 1);
        fault("e;;", 2, 1, 0);
        fault("e;e", 2, 1, 1);
        fault("e;p", 2, 1, 1);
        fault("e;p;", 2, 1, 1);
        fault("e;p0", 2, 1, 2);
        fault("e;p0e", 2, 1, 2);
        fault("e;p00", 2, 1, 3);
        fault("e;p000;", 2, 1, 3);
        fault("b 1;", 0, 1, 1);
        fault("b1 ;", 0, 1, 2);
        fault("x-1;", 0, 1, 1);
        fault("g2:", 0, 1, 2);
        fault("g/;", 0, 1, 1);
        fault("g:;", 0, 1, 1);
        fault("p5;", 0, 2, INVALID);
        fault("p2;", 0, 2, NOT_POSSIBLE);
        fault("p0;p4;", 3, 2, INVALID);
        fault("p00;p01;", 4, 2, NOT_POSSIBLE);
        fault("b10;", 0, 2, INVALID);
        fault("b99;", 0, 2, INVALID);
        fault("b6;", 0, 2, NOT_POSSIBLE);
        fault("b1;", 0, 2, NOT_POSSIBLE);
        fault("b0;b0;q", 3, 2, NOT_POSSIBLE);
        fault("x0;", 0, 2, NOT_POSSIBLE);
        fault("x5;", 0, 2, INVALID);
        fault("g1;", 0, 2, INVALID);
        fault("g5;", 0, 2, INVALID);
        fault("e;g00;", 2, 2, INVALID);
        fault("e;g12;", 2, 2, INVALID);
        fault("p0;p0;p1;p1;b1;p0;", 15, 2, NOT_POSSIBLE);
        fault("q;b10;", 0, 1, 0);
        x = gameOverByManors();
        fault(x, "e;", 0, 2, NOT_POSSIBLE);
        fault(x, "g2;e;x9;", 5, 2, INVALID);
        fault(x, "p9;", 0, 2, INVALID);
        noFault(x, "g2;e;");
        x = withForge();
        noFault(x, "p0;x0;e;");
        fault(x, "p0;x0;x0;", 6, 2, NOT_POSSIBLE);
        fault(x, "p0;x3;x4;", 6, 2, INVALID);
        placesOfTwoDigits();
        due("fault changes nothing", x.turn(3) * 10 + x.turn(4), 10);
    }

    /** Scouts draw a hand of more than ten cards; few calls are spent on it. */
    private static void placesOfTwoDigits() {
        TurningShop x = new TurningShop();
        endWithRow(x, 8);
        x.end();
        List<Integer> hand = new ArrayList<>();
        for (int round = 0; round < 17; round++) {
            hand.clear();
            read(x, hand);
            playAll(x, hand, 9);
            if (hand.lastIndexOf(0) >= 10) {
                break;
            }
            while (hand.contains(8) && hand.contains(3)) {
                hand.remove(Integer.valueOf(x.play(hand.indexOf(8))));
                hand.remove(Integer.valueOf(x.scrap(hand.indexOf(3))));
            }
            playAll(x, hand, 0);
            if (x.buy(9) < 0) {
                x.buy(8);
            }
            x.end();
            x.end();
        }
        int size = hand.size();
        int penny = hand.lastIndexOf(0);
        due("a large hand with a penny far behind", penny >= 10 ? 1 : 0, 1);
        fault(x, "p" + penny + ";p" + (size - 1) + ";", 4, 2, INVALID);
        fault(x, "p99;", 0, 2, INVALID);
        noFault(x, "p" + penny + ";");
        due("perform()", x.perform(), 1);
        due("the penny is gone from the hand", x.many(0, HAND, 10), size - 1);
        due("it gives a coin", x.turn(1), 1);
    }

    private static void read(TurningShop x, List<Integer> hand) {
        for (int kind = x.card(0, HAND, hand.size()); kind >= 0; kind = x.card(0, HAND, hand.size())) {
            hand.add(kind);
        }
    }

    private static void playAll(TurningShop x, List<Integer> hand, int kind) {
        while (hand.contains(kind)) {
            hand.remove(Integer.valueOf(x.play(hand.indexOf(kind))));
            if (kind == 9) {
                read(x, hand);
            }
        }
    }

    private static void promise23Perform() {
        TurningShop x = new TurningShop();
        due("an empty text", x.perform(), 0);
        due("is a change, too", x.count(6), 1);
        write(x, "p0;p0;p1;p1;b1;e;");
        due("perform()", x.perform(), 6);
        due("one change", x.count(6), 2);
        due("the text stays", x.count(7), 17);
        due("player", x.turn(0), 1);
        cards("performed", x, 0, DISCARDS, 1, 3, 0, 0, 0, 0);
        due("perform() again", x.perform(), 6);
        cards("performed", x, 1, DISCARDS, 1, 3, 0, 0, 0, 0);
        due("not with another hand", x.perform(), NOT_POSSIBLE);
        due("which changes nothing", x.turn(1) * 10 + x.count(6), 3);
        due("undo()", x.undo(), 2);
        due("undo()", x.undo(), 1);
        due("all orders are undone", x.turn(0) * 10 + x.count(1), 0);
        cards("undone", x, 0, HAND, 0, 0, 3, 0, 0);
        due("the text stays", x.count(7), 17);
        write(x, "g4;e;e;");
        due("perform()", x.perform(), 3);
        due("players", x.count(0), 4);
        due("player", x.turn(0), 2);
        write(x, "e;e;b9;");
        due("not if it has a fault", x.perform(), NOT_POSSIBLE);
        due("no order of it is done", x.turn(0), 2);
        x = withForge();
        write(x, "p00;x03;");
        due("perform()", x.perform(), 2);
        due("scrapped", x.kindOf(0, 3), 1);
    }

    public static void main(String[] args) {
        constants();
        face();
        promise1NewObject();
        promise2Begin();
        promise3Play();
        promise4Buy();
        promise5Scrap();
        promise6End();
        promise7Alike();
        promise8Set();
        promise9Card();
        promise10Many();
        promise11Points();
        promise12KindOf();
        promise13Turn();
        promise14Purse();
        promise15Outcome();
        promise16Advice();
        promise17Wealth();
        promise18Count();
        promise19Undo();
        promise20Type();
        promise21ClearText();
        promise22Fault();
        promise23Perform();
        finish();
    }
}
