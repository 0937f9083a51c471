import java.io.IOException;

/**
 * The document's promises, sentence by sentence: the ends of each argument's range, and the answers at the edges of
 * the state that they rest on.
 */
public final class EdgesTest extends Quotes {
    private static final String PLACES = "- `place`: 0 for the first one, and so on";
    private static final String PLAYER = "- `player`: number of the player";
    private static final String NO_CURSES = "s0" + " b5 e".repeat(10);
    private static final String SHILLINGS = "s0 p0 p0 p1 p1 b1 e e p1 p1 p2 b1 e e";

    private static void newObject() {
        section("## Promise 1: A new object");
        says("`TurningShop()`: Begins a game of two players.");
        TurningShop x = new TurningShop();
        due("players", x.count(0), 2);
        due("no third one", x.points(2), INVALID);
        same("a new one", state(x), state(game("g2")));
        due("states", x.count(6), 0);
        due("text", x.count(7), 0);
        due("undo()", x.undo(), NOT_POSSIBLE);
    }

    private static void begin() {
        section("## Promise 2: begin");
        says("`int begin(int players)`: Begins a game anew (setting 0 stays).");
        for (int players = 2; players <= 4; players++) {
            String fresh = state(game("s9 g" + players));
            same("anew with other players", state(game("g" + (6 - players) + " e p0 s9 g" + players)), fresh);
            same("anew within a turn", state(game(FORGE + " p0 x0 p0 b0 s9 g" + players)), fresh);
            same("anew when over", state(game(OVER + " s9 g" + players)), fresh);
        }
        due("setting 0", game("s0 g4").count(20), 0);
        says("- `players`: 2 to 4");
        range("begin", 2, 4, new TurningShop()::begin);
        range("begin when over", 2, 4, players -> game(OVER).begin(players));
        says("Returns how many pennies are left in the pile; INVALID_ARGUMENT if players is out of range.");
        TurningShop x = game("b0");
        due("begin(2)", x.begin(2), 46);
        due("begin(3)", x.begin(3), 39);
        due("begin(4)", x.begin(4), 32);
        due("begin(5)", x.begin(5), INVALID);
        due("the players are as before", x.count(0), 4);
    }

    // ---- moves

    private static void play() {
        section("## Promise 3: play");
        says("`int play(int place)`: Plays a card of the hand of the player whose turn it is.");
        TurningShop x = game("e p4");
        due("the hand of player 1", x.many(1, HAND, 10), 4);
        due("the hand of player 0", x.many(0, HAND, 10), 5);
        says(PLACES);
        range("play of five", 0, 4, place -> game("").play(place));
        range("play of six", 0, 5, place -> game(SCOUT + " p0").play(place));
        range("play of one", 0, 0, place -> game(FOUR_COINS).play(place));
        says("Returns its kind;");
        due("the first one", game(SHILLING).play(0), 1);
        due("the last one", game(SEVEN_COINS).play(4), 2);
        says("INVALID_ARGUMENT if there is no such card;");
        x = game("p0 p0 p1");
        due("behind the last one", x.play(2), INVALID);
        due("the last one", x.play(1), 0);
        due("the place that it had", x.play(1), INVALID);
        due("of none", game(THINNEST + " e p0").play(0), INVALID);
        says("NOT_POSSIBLE if it cannot be played, or there is no action for it.");
        due("a field", game("").play(2), NOT_POSSIBLE);
        x = game(TWO_WITCHES);
        due("a witch with one action", x.play(4), 6);
        due("the other one with none", x.play(3), NOT_POSSIBLE);
        due("a forge with the action of a forge", game("s2 a12 p2").play(3), 8);
    }

    private static void buy() {
        section("## Promise 4: buy");
        plain("`int buy(int kind)`: Buys a card.");
        says("- `kind`: 0 to 9");
        range("buy", 0, 9, kind -> game("").buy(kind));
        due("buy(9) in the row", game("s9 e p0 p0 p1").buy(9), 7);
        says("Returns how many are left in its pile; INVALID_ARGUMENT if kind is out of range;");
        due("the first penny", game("").buy(0), 45);
        due("the last manor", game(LAST_MANOR + " p1 p1 p1 p1").buy(4), 0);
        due("the last curse", game("s0" + " b5 e".repeat(9)).buy(5), 0);
        says("NOT_POSSIBLE if it cannot be bought.");
        due("over", game(OVER).buy(0), NOT_POSSIBLE);
        due("not in the row", game("s1 e").buy(0), NOT_POSSIBLE);
        due("in the row, behind the kind 9", game("s5 e").buy(0), 45);
        due("an empty pile", game(NO_CURSES).buy(5), NOT_POSSIBLE);
        due("no buy", game("b0").buy(0), NOT_POSSIBLE);
        due("a second buy", game(MARKET + " p1 b0").buy(0), 44);
        due("no third buy", game(MARKET + " p1 b0 b0").buy(0), NOT_POSSIBLE);
        due("a coin too few", game("p0 p0").buy(1), NOT_POSSIBLE);
        due("just enough", game("p0 p0 p1").buy(1), 19);
        due("coins of the hand are none", game("").buy(1), NOT_POSSIBLE);
    }

    private static void scrap() {
        section("## Promise 5: scrap");
        plain("`int scrap(int place)`: Scraps a card of the hand.");
        says(PLACES);
        range("scrap of four", 0, 3, place -> game(FORGE + " p0").scrap(place));
        range("scrap of one", 0, 0, place -> game(FORGE + " p0 p1 p1 p1").scrap(place));
        says("Returns its kind;");
        due("the first one", game(FORGE + " p0").scrap(0), 3);
        due("the last one", game(FORGE + " p0").scrap(3), 0);
        due("a forge", game("s2 a12 p2").scrap(3), 8);
        says("INVALID_ARGUMENT if there is no such card;");
        due("behind the last one", game(FORGE + " p0").scrap(4), INVALID);
        due("of none", game(THINNEST + " e p0").scrap(0), INVALID);
        due("without a scrap", game("").scrap(5), INVALID);
        says("NOT_POSSIBLE if there is no scrap.");
        due("no forge was played", game(FORGE).scrap(0), NOT_POSSIBLE);
        due("the scrap was used", game(FORGE + " p0 x0").scrap(0), NOT_POSSIBLE);
        due("the second of two scraps", game("s2 a12 p2 p3 x0").scrap(0), 0);
        due("both were used", game("s2 a12 p2 p3 x0 x0").scrap(0), NOT_POSSIBLE);
        due("the scrap of the turn before", game("s2 a12 p2 p3 e").scrap(0), NOT_POSSIBLE);
        due("over", game(OVER).scrap(0), NOT_POSSIBLE);
    }

    private static void end() {
        section("## Promise 6: end");
        plain("`int end()`: Ends the turn.");
        says("Returns the player whose turn it is then (also if the game is over);");
        due("the next one", game("").end(), 1);
        due("behind the last one the first", game("g4 e e e").end(), 0);
        due("also over, the next one", game(TWO_EMPTY_PILES + " p0 p0 b9").end(), 1);
        due("also over, the first", game(LAST_MANOR + " p1 p1 p1 p1 b4").end(), 0);
        says("NOT_POSSIBLE.");
        due("when over", game(OVER).end(), NOT_POSSIBLE);
    }

    private static void alike() {
        section("## Promise 7: alike");
        plain("`int alike(int turns)`: Lets all play alike.");
        says("- `turns`: 1 to 20: ends of turns");
        range("alike", 1, 20, new TurningShop()::alike);
        range("alike within a turn", 1, 20, turns -> game(MARKET + " p1 b0").alike(turns));
        says("Returns how many turns were ended; INVALID_ARGUMENT if turns is out of range;");
        due("one", game("").alike(1), 1);
        due("twenty", game("").alike(20), 20);
        due("nineteen up to the end", game("s0 a9").alike(20), 19);
        due("twenty up to the end", game("s0 a8").alike(20), 20);
        due("twenty of twenty-one", game("s0 a7").alike(20), 20);
        due("one up to the end", game(LAST_MANOR).alike(20), 1);
        due("the turn of now is one", game("p0 p0 b5").alike(1), 1);
        says("NOT_POSSIBLE.");
        due("when over", game(OVER).alike(1), NOT_POSSIBLE);
    }

    private static void set() {
        section("## Promise 8: set");
        plain("`int set(int what, int value)`: Sets a setting.");
        says("- `what`: 0");
        range("set(.., 3)", 0, 0, what -> game("").set(what, 3));
        due("not the number by which it is counted", game("").set(20, 3), INVALID);
        says("- `value`: a value in its range");
        range("set(0, ..)", 0, 9, value -> game("").set(0, value));
        says("Returns what it was; INVALID_ARGUMENT if an argument is out of range.");
        TurningShop x = new TurningShop();
        due("at first", x.set(0, 9), 1);
        due("then", x.set(0, 0), 9);
        due("the same once more", x.set(0, 0), 0);
        due("both out of range", x.set(-1, 10), INVALID);
        due("it stays", x.count(20), 0);
        due("when over", game(OVER).set(0, 5), 0);
    }

    // ---- what there is

    private static void card() {
        section("## Promise 9: card");
        plain("`int card(int player, int where, int index)`: Returns the kind of a card.");
        says(PLAYER);
        range("card of a player of two", 0, 1, player -> game("").card(player, 1, 0));
        range("card of a player of four", 0, 3, player -> game("g4").card(player, 1, 0));
        says("- `where`: 0: the deck; 1: the hand; 2: the played cards; 3: the discards");
        TurningShop x = game(FORGE + " p2 p0 b0");
        range("card where", 0, 3, where -> x.card(1, where, 0));
        cards("where 0", x, 1, 0, 0, 3, 0, 0, 3, 0);
        cards("where 1", x, 1, 1, 3, 0, 0);
        cards("where 2", x, 1, 2, 0, 8);
        cards("where 3", x, 1, 3, 0);
        says("- `index`: 0 for the first one, and so on");
        due("the first one", x.card(1, 2, 0), 0);
        due("the last one", x.card(1, 2, 1), 8);
        says("Returns the kind; INVALID_ARGUMENT if there is no such player, where is out of range "
            + "or index is below 0;");
        due("index -1", x.card(1, 2, -1), INVALID);
        due("the least index", x.card(1, 2, Integer.MIN_VALUE), INVALID);
        due("no such player, not so many", x.card(2, 1, 99), INVALID);
        due("where 4, not so many", x.card(1, 4, 99), INVALID);
        says("NOT_FOUND if there are not so many.");
        due("behind the last one", x.card(1, 2, 2), NOT_FOUND);
        due("behind the hand come no played cards", x.card(1, 1, 3), NOT_FOUND);
        due("the most index", x.card(1, 2, Integer.MAX_VALUE), NOT_FOUND);
        due("an empty deck", game("e").card(0, 0, 0), NOT_FOUND);
        due("an empty hand", game(THINNEST + " e p0").card(0, 1, 0), NOT_FOUND);
        due("none played", game("").card(0, 2, 0), NOT_FOUND);
        due("no discards", game("").card(0, 3, 0), NOT_FOUND);
    }

    private static void many() {
        section("## Promise 10: many");
        plain("`int many(int player, int where, int kind)`: Returns how many cards a player has somewhere.");
        says(PLAYER);
        range("many of a player of two", 0, 1, player -> game("").many(player, 4, 10));
        range("many of a player of four", 0, 3, player -> game("g4").many(player, 4, 10));
        says("- `where`: 0 to 3, as told, or 4: in all");
        TurningShop x = game(FORGE + " p2 p0 b0");
        range("many where", 0, 4, where -> x.many(1, where, 0));
        int[] pennies = {4, 2, 1, 1, 8};
        int[] all = {6, 3, 2, 1, 12};
        for (int where = 0; where < 5; where++) {
            due("pennies at " + where, x.many(1, where, 0), pennies[where]);
            due("cards at " + where, x.many(1, where, 10), all[where]);
        }
        says("- `kind`: 0 to 9, or 10: of all kinds");
        range("many of a kind", 0, 10, kind -> x.many(1, 4, kind));
        due("of the kind 9, in all", game(SCOUT).many(1, 4, 9), 1);
        says("Returns how many; INVALID_ARGUMENT if an argument is out of range.");
        due("none of the kind 9", x.many(1, 4, 9), 0);
        due("none at all in the deck", game("e").many(0, 0, 10), 0);
        due("one at all", game(THINNEST).many(0, 4, 10), 1);
        due("all out of range", x.many(2, 5, 11), INVALID);
    }

    private static void points() {
        section("## Promise 11: points");
        plain("`int points(int player)`: Returns the points of a player.");
        says(PLAYER);
        range("points of two", 0, 1, game("")::points);
        range("points of three", 0, 2, game("g3")::points);
        range("points of four", 0, 3, game("g4")::points);
        says("Returns the points of all cards, plus 100; INVALID_ARGUMENT.");
        due("no card that has points", game(THINNEST).points(0), 100);
        TurningShop x = game("s0" + " b5 e e".repeat(10));
        due("ten curses and three fields", x.points(0), 100 - 10 + 3);
        due("the other one has none", x.points(1), 103);
        x = game("p0 p0 b3");
        due("also those of the discards", x.points(0), 104);
        moves(x, "g2 e");
        due("also those of the hand and the deck", x.points(1), 103);
        due("scrapped ones are none", game(FORGE + " p0 x0").points(1), 102);
        due("manors", game(OVER).points(0) + game(OVER).points(1), 200 + 6 * 6 + 2 * 3);
    }

    private static void kindOf() {
        section("## Promise 12: kindOf");
        plain("`int kindOf(int kind, int what)`: Returns something of a kind.");
        says("- `kind`: 0 to 9");
        TurningShop x = new TurningShop();
        for (int what = 0; what < 5; what++) {
            int of = what;
            range("kindOf(.., " + what + ")", 0, 9, kind -> x.kindOf(kind, of));
        }
        says("- `what`: 0: its price; 1: cards in its pile;");
        range("kindOf(9, ..)", 0, 4, what -> x.kindOf(9, what));
        due("the least price", x.kindOf(5, 0), 0);
        due("the highest price", x.kindOf(4, 0), 8);
        due("an empty pile", game(NO_CURSES).kindOf(5, 1), 0);
        says("2: 1 if it is in the row, otherwise 0;");
        due("the last one of the row", x.kindOf(5, 2), 1);
        due("the one behind it", x.kindOf(6, 2), 0);
        due("the one ahead of the first", x.kindOf(9, 2), 0);
        due("though its pile is empty", game(NO_CURSES).kindOf(5, 2), 1);
        due("behind the kind 9", game("s9 e").kindOf(4, 2), 1);
        due("behind those", game("s9 e").kindOf(5, 2), 0);
        due("when over", game(OVER).kindOf(4, 2), 1);
        says("3: cards of it that were scrapped so far;");
        due("none", x.kindOf(0, 3), 0);
        TurningShop thin = game(THINNEST);
        due("all pennies", thin.kindOf(0, 3), 7);
        due("all fields", thin.kindOf(3, 3), 3);
        due("no forge", thin.kindOf(8, 3), 0);
        moves(thin, "u u");
        due("one less when it is undone", thin.kindOf(0, 3), 6);
        moves(thin, "g2");
        due("none in a game begun anew", thin.kindOf(0, 3), 0);
        whyNotBought();
        says("Returns the number; INVALID_ARGUMENT if an argument is out of range.");
        due("both out of range", x.kindOf(10, 5), INVALID);
        due("a price when over", game(OVER).kindOf(9, 0), 3);
    }

    private static void whyNotBought() {
        says("4: why it cannot be bought: the first of these that is so: 1 the game is over;");
        for (int kind = 0; kind < 10; kind++) {
            due("in the row or not, with an empty pile or not: " + kind, game(OVER).kindOf(kind, 4), 1);
        }
        says("2 it is not in the row;");
        TurningShop x = new TurningShop();
        due("behind the last one of the row, too dear", x.kindOf(6, 4), 2);
        due("and its pile is empty", game(NO_CURSES + " s6 e").kindOf(5, 4), 2);
        due("and there is no buy", game("b0").kindOf(9, 4), 2);
        due("and it costs nothing", game("s6 e").kindOf(5, 4), 2);
        says("3 its pile is empty;");
        due("and it costs nothing", game(NO_CURSES).kindOf(5, 4), 3);
        due("and there is no buy", game(NO_CURSES + " b0").kindOf(5, 4), 3);
        due("and it is too dear", game("g4 s0 a32").kindOf(2, 4), 3);
        says("4 there is no buy;");
        due("and there are too few coins", game("b0").kindOf(4, 4), 4);
        due("and there are enough", game("p0 p0 b0").kindOf(3, 4), 4);
        says("5 there are too few coins;");
        due("one too few", game("p0 p0").kindOf(1, 4), 5);
        due("seven for a manor", game(SEVEN_COINS + " p1 p1 p1 p1").kindOf(4, 4), 5);
        says("otherwise 0");
        due("just enough", game("p0 p0 p1").kindOf(1, 4), 0);
        due("eight for a manor", game(EIGHT_COINS + " p0 p0 p1 p1").kindOf(4, 4), 0);
        due("no coin for what costs none", game("").kindOf(5, 4), 0);
        due("the last one of its pile", game("s0" + " b5 e".repeat(9)).kindOf(5, 4), 0);
    }

    private static void turn() {
        section("## Promise 13: turn");
        plain("`int turn(int what)`: Returns something of the turn.");
        says("- `what`: 0: the player; 1: coins; 2: buys; 3: actions; 4: scraps;");
        range("turn", 0, 6, new TurningShop()::turn);
        range("turn when over", 0, 6, game(OVER)::turn);
        turnOf("", 0, 0, 1, 1, 0);
        turnOf("g4 e e e", 3, 0, 1, 1, 0);
        turnOf(FOUR_COINS, 0, 4, 1, 1, 0);
        turnOf("p0 p0 p1 b1", 0, 0, 0, 1, 0);
        turnOf(WITCH + " p1", 0, 0, 1, 0, 0);
        turnOf(MARKET + " p1", 0, 1, 2, 1, 0);
        turnOf("s2 a12 p2 p3", 0, 0, 1, 1, 2);
        turnOf(OVER, 0, 0, 1, 1, 0);
        says("5: kinds that can be bought, as a set;");
        due("no coin", game("").turn(5), 1 | 1 << 5);
        due("one coin too few for a field", game("p0").turn(5), 1 | 1 << 5);
        due("just enough for a field", game("p0 p0").turn(5), 1 | 1 << 3 | 1 << 5);
        due("all of a row", game(EIGHT_COINS + " p0 p0 p1 p1").turn(5), 63);
        due("a row with an empty pile", game(NO_CURSES).turn(5), 1);
        due("no buy", game("b0").turn(5), 0);
        due("a row of 1 to 6 and no coin", game("e").turn(5), 1 << 5);
        due("over", game(OVER).turn(5), 0);
        says("6: the first kind of the row");
        due("at first", game("").turn(6), 0);
        due("the highest one", game("s9 e").turn(6), 9);
        due("and one behind it", game("s9 e s1 e").turn(6), 0);
        says("Returns the number; INVALID_ARGUMENT if what is out of range.");
        due("turn(7)", game("").turn(7), INVALID);
    }

    private static void turnOf(String moves, int... answers) {
        TurningShop x = game(moves);
        for (int what = 0; what < answers.length; what++) {
            due("turn(" + what + ") behind " + moves, x.turn(what), answers[what]);
        }
    }

    // ---- what would be

    private static void purse() {
        section("## Promise 14: purse");
        says("`int purse()`: Returns the coins that there would be if all cards of the hand that can be played freely "
            + "were played.");
        due("none at all", game("s2 a22").purse(), 0);
        due("pennies", game("").purse(), 4);
        due("a shilling", game(SHILLING).purse(), 5);
        due("a crown, too", game(SEVEN_COINS).purse(), 7);
        due("a market is not played freely", game(MARKET).purse(), 4);
        due("its coin, when it was played", game(MARKET + " p1").purse(), 6);
        due("without an action", game(TWO_WITCHES + " p4").purse(), 4);
        says("Returns the coins.");
        due("an empty hand", game(NONE_TO_DRAW + " p1 p0 p0").purse(), 2);
        due("no card in the hand, nor a coin", game(THINNEST + " e p0").purse(), 0);
        due("those that were paid are gone", game("p0 p0 b3").purse(), 2);
        due("it changes nothing", game("").turn(1), 0);
    }

    private static void outcome() {
        section("## Promise 15: outcome");
        says("`int outcome(int what)`: Tells how the game would end if all played alike from now on.");
        for (String moves : new String[] {"", "s3", "g3 s7", "g4 s9", FOUR_COINS, MARKET + " p1 b0",
            TWO_WITCHES + " p3", TWO_EMPTY_PILES, OVER}) {
            foreseen(moves);
        }
        says("- `what`: 0: the player with most points, of several the lowest;");
        range("outcome", 0, 4, new TurningShop()::outcome);
        range("outcome when over", 0, 4, game(OVER)::outcome);
        due("four players, two with most", game("g4 s0").outcome(0), 0);
        due("three players, the last two with most", game("g3 s0 b5").outcome(0), 1);
        due("four players, the last two with most", game("g4 s0 b5 e b5").outcome(0), 2);
        due("the last of four alone", game("g4 s3").outcome(0), 3);
        due("as it is when over", game("g4 s0 a42").outcome(0), 0);
        says("1: the points of that player, plus 100;");
        due("four players, two with most", game("g4 s0").outcome(1), 116);
        due("three players, the last two with most", game("g3 s0 b5").outcome(1), 116);
        due("as it is when over", game(OVER).outcome(1), 121);
        says("2: how many turns are ended;");
        due("none when over", game(OVER).outcome(2), 0);
        due("one", game(LAST_MANOR).outcome(2), 1);
        due("the turn of now is one", game(LAST_MANOR + " p1 p1 p1 p1 b4").outcome(2), 1);
        due("60 at most", game("s6").outcome(2), 60);
        due("from now on, not from the beginning", game("s6 a10").outcome(2), 60);
        says("3: 1 if the game is over then, otherwise 0;");
        due("not with 60 of 61", game("s6 a10").outcome(3), 0);
        due("with 60 of 60", game("s6 a11").outcome(3), 1);
        due("when over", game(OVER).outcome(3), 1);
        says("4: curses that are left in the pile");
        due("all", game("s0").outcome(4), 10);
        due("none", game("g4 a1 s0 a18").outcome(4), 0);
        due("none from the beginning", game(NO_CURSES).outcome(4), 0);
        says("Returns the number; INVALID_ARGUMENT if what is out of range.");
        due("outcome(5)", game("").outcome(5), INVALID);
    }

    /** Goes on as the outcome says that it would. */
    private static void foreseen(String moves) {
        TurningShop x = game(moves);
        int states = x.count(6);
        int[] told = new int[5];
        for (int what = 0; what < 5; what++) {
            told[what] = x.outcome(what);
        }
        due("outcome is no change", x.count(6), states);
        due("turns behind " + moves, alike(x, 60), told[2]);
        due("over behind " + moves, x.count(2), told[3]);
        due("curses behind " + moves, x.kindOf(5, 1), told[4]);
        due("points behind " + moves, x.points(told[0]), told[1]);
        for (int player = 0; player < x.count(0); player++) {
            boolean fewer = x.points(player) < told[1];
            holds("the points of player " + player + " behind " + moves,
                fewer || x.points(player) == told[1] && player >= told[0]);
        }
    }

    private static void advice() {
        section("## Promise 16: advice");
        says("`int advice(int what)`: Finds the kind that the player whose turn it is should buy now (with the coins "
            + "that there are), so that this player would have most points in the end if all played alike behind "
            + "that.");
        advised("a field for the coins that there are", "s0 " + FOUR_COINS, 3, 122);
        advised("not for those of the hand", "s0", 0, 121);
        advised("player 1 is on turn", "s6 a1 p0 p0 p1", 0, 129);
        triedOut("s0 " + FOUR_COINS);
        triedOut("s6 a9");
        triedOut("s6 a10");
        triedOut("s6 a11");
        triedOut("g4 s4 a9 p0");
        triedOut(MARKET + " p1");
        says("- `what`: 0: the kind, of several the lowest,");
        range("advice", 0, 1, new TurningShop()::advice);
        advised("0 or 1, but not 8 or 9", "s6 a1 " + FOUR_COINS, 0, 129);
        advised("0 or 5", "s4 a10", 0, 140);
        advised("the highest kind alone", "s2", 5, 132);
        says("or 10 if buying nothing ahead of going on alike is better than each;");
        advised("better than each", "s0 a2", 10, 121);
        advised("as good as the lowest one", "s0", 0, 121);
        advised("as good as another one", "s0 a10 p0 p0 p1", 1, 121);
        says("1: the points then, plus 100");
        due("better than each", game("s0 a2").advice(1), 121);
        says("Returns the number; INVALID_ARGUMENT if what is out of range;");
        due("advice(2)", game("").advice(2), INVALID);
        due("advice(-1) when over", game(OVER).advice(-1), INVALID);
        says("NOT_FOUND if nothing can be bought.");
        for (int what = 0; what < 2; what++) {
            due("no buy", game("b0").advice(what), NOT_FOUND);
            due("over", game(OVER).advice(what), NOT_FOUND);
            due("all too dear, or gone", game(NO_CURSES + " s1 e").advice(what), NOT_FOUND);
        }
    }

    private static void advised(String what, String moves, int kind, int points) {
        TurningShop x = game(moves);
        int states = x.count(6);
        due("advice(0), " + what, x.advice(0), kind);
        due("advice(1), " + what, x.advice(1), points);
        due("states, " + what, x.count(6), states);
    }

    /** Buys each kind, and none, in a game of its own, and goes on alike for 60 turns. */
    private static void triedOut(String moves) {
        TurningShop x = game(moves);
        int best = -1;
        int most = -1;
        for (int kind = 0; kind <= 10; kind++) {
            TurningShop y = game(moves);
            if (kind == 10 || y.buy(kind) >= 0) {
                alike(y, 60);
                int points = y.points(x.turn(0));
                best = points > most ? kind : best;
                most = Math.max(points, most);
            }
        }
        due("advice(0), tried behind " + moves, x.advice(0), best);
        due("advice(1), tried behind " + moves, x.advice(1), most);
    }

    private static void wealth() {
        section("## Promise 17: wealth");
        says("`int wealth(int player)`: Returns the mean of the coins that the cards of a player give, as a float: "
            + "the coins of all cards, as a float, divided by how many cards, as a float.");
        due("below a half", game("s0" + " b5 e e".repeat(6)).wealth(0), bits(7, 16));
        due("a half", game("s0" + " b5 e e".repeat(4)).wealth(0), bits(7, 14));
        due("above a half", game("").wealth(0), bits(7, 10));
        due("below one", game(SHILLINGS).wealth(0), bits(11, 12));
        due("one", game(SHILLINGS + " p0 p1 p1 p1 b1").wealth(0), bits(13, 13));
        due("above one", game(OVER).wealth(1), bits(coins(game(OVER), 1), game(OVER).many(1, 4, 10)));
        due("a market", game(MARKET).wealth(0), bits(7 + 2 + 1, 12));
        due("no coin", game(THINNEST).wealth(0), bits(0, 1));
        due("in the hand and played", game(NONE_TO_DRAW).wealth(0), bits(2, 4));
        says(PLAYER);
        range("wealth of two", 0, 1, game("")::wealth);
        range("wealth of four", 0, 3, game("g4")::wealth);
        says("Returns the bits of the float; INVALID_ARGUMENT;");
        due("0.7", game("").wealth(1), 0x3f333333);
        due("one", game(SHILLINGS + " p0 p1 p1 p1 b1").wealth(0), 0x3f800000);
        due("zero", game(THINNEST).wealth(0), 0);
        due("no such player", game("g3").wealth(3), INVALID);
        says("NOT_FOUND if the player has no card.");
        TurningShop x = game(THINNEST + " e p0");
        due("no player comes to that: a forge cannot scrap itself", x.scrap(0), INVALID);
        due("so a card is left", x.wealth(0), 0);
    }

    private static int bits(int coins, int cards) {
        return Float.floatToIntBits((float) coins / (float) cards);
    }

    private static int coins(TurningShop x, int player) {
        return x.many(player, 4, 0) + 2 * x.many(player, 4, 1) + 3 * x.many(player, 4, 2) + x.many(player, 4, 7);
    }

    private static void count() {
        section("## Promise 18: count");
        plain("`int count(int what)`: Returns a number.");
        says("- `what`: 0: players; 1: turns that were ended so far;");
        due("players at most", game("g4").count(0), 4);
        due("none", game("p0 b0").count(1), 0);
        due("one", game("e").count(1), 1);
        due("alike, too", game("e a20").count(1), 21);
        due("the last one, too", game(OVER).count(1), 28);
        due("undone", game("e e u").count(1), 1);
        due("anew", game("e e g2").count(1), 0);
        says("2: 1 if the game is over, otherwise 0;");
        due("not over", game(LAST_MANOR).count(2), 0);
        due("over", game(OVER).count(2), 1);
        due("undone", game(OVER + " u").count(2), 0);
        due("anew", game(OVER + " g2").count(2), 0);
        says("3: empty piles;");
        due("none", game("").count(3), 0);
        due("one", game(NO_CURSES).count(3), 1);
        due("two", game(TWO_EMPTY_PILES).count(3), 2);
        due("four", game(TWO_EMPTY_PILES + " a1").count(3), 4);
        due("anew", game(NO_CURSES + " g2").count(3), 0);
        says("4: cards that were scrapped so far;");
        due("none", game("").count(4), 0);
        due("one", game(FORGE + " p0 x0").count(4), 1);
        due("ten", game(THINNEST).count(4), 10);
        due("anew", game(THINNEST + " g2").count(4), 0);
        says("5: cards in all piles;");
        due("two players", game("").count(5), 164 - 20);
        due("four players", game("g4").count(5), 164 - 40);
        due("one bought", game("b0").count(5), 164 - 21);
        due("scrapped ones do not come back", game(THINNEST).count(5), 164 - 21);
        due("given curses", game(TWO_WITCHES + " p3").count(5), game(TWO_WITCHES).count(5) - 1);
        says("6: states in the history;");
        due("none", game("").count(6), 0);
        due("four", game("e e e e").count(6), 4);
        due("not five", game("e e e e e").count(6), 4);
        due("undone", game("e e e e e u u u u").count(6), 0);
        says("7: the length of the text;");
        TurningShop x = new TurningShop();
        due("none", x.count(7), 0);
        write(x, "~".repeat(60));
        due("full", x.count(7), 60);
        due("refused", x.type('~') == LIMIT ? x.count(7) : -1, 60);
        says("20: the setting 0");
        due("the least", game("s0").count(20), 0);
        due("the most", game("s9").count(20), 9);
        says("Returns the number; INVALID_ARGUMENT if what is out of range.");
        range("count up to 7", 0, 7, x::count);
        range("count of settings", 20, 20, x::count);
        for (int what = 8; what < 20; what++) {
            due("count(" + what + ")", x.count(what), INVALID);
        }
    }

    private static void undo() {
        section("## Promise 19: undo");
        says("`int undo()`: Restores the latest state of the history, which is removed from it.");
        TurningShop x = game("s5 e p0");
        String[] states = {state(game("s5 e")), state(game("s5")), state(new TurningShop())};
        for (int i = 0; i < states.length; i++) {
            due("undo()", x.undo(), 2 - i);
            same("undone " + (i + 1), state(x), states[i]);
        }
        x = game("e e u u");
        moves(x, "p4");
        due("a change behind undone ones", x.count(6), 1);
        due("undo()", x.undo(), 0);
        same("undone", state(x), state(new TurningShop()));
        same("the oldest of four", state(game("e e e e e e e u s5 u u u u")), state(game("e e e")));
        says("Returns the number of states that are left in the history;");
        x = game("e e e e e");
        for (int left = 3; left >= 0; left--) {
            due("undo()", x.undo(), left);
            due("count(6)", x.count(6), left);
        }
        says("NOT_POSSIBLE if it is empty.");
        due("of a new object", game("").undo(), NOT_POSSIBLE);
        due("when all are undone", x.undo(), NOT_POSSIBLE);
        due("once more", x.undo(), NOT_POSSIBLE);
        same("which changes nothing", state(x), state(game("e")));
        due("when over", game(OVER).undo(), 2);
    }

    // ---- texts

    private static void type() {
        section("## Promise 20: type");
        plain("`int type(int character)`: Appends a character to the text.");
        says("- `character`: 32 to 126");
        range("type", 32, 126, new TurningShop()::type);
        due("256 more than a letter", game("").type(256 + 'e'), INVALID);
        due("65536 more than a letter", game("").type(65536 + 'e'), INVALID);
        says("Returns the length of the text; INVALID_ARGUMENT if character is out of range;");
        TurningShop x = new TurningShop();
        due("the first one", x.type('e'), 1);
        due("a bad one", x.type(127), INVALID);
        due("the second one", x.type(';'), 2);
        due("it is an order", x.perform(), 1);
        says("LIMIT_REACHED if it has 60 characters.");
        for (int length = 3; length <= 60; length++) {
            due("type", x.type(length % 2 == 1 ? 'e' : ';'), length);
        }
        due("one more", x.type('e'), LIMIT);
        due("and again", x.type(126), LIMIT);
        due("out of range rather", x.type(31), INVALID);
        due("the text is as before", x.perform(), 30);
        x.clearText();
        due("there is room again", x.type('e'), 1);
    }

    private static void clearText() {
        section("## Promise 21: clearText");
        says("`int clearText()`: Empties the text.");
        TurningShop x = new TurningShop();
        write(x, "b99;");
        due("clearText()", x.clearText(), 4);
        due("length", x.count(7), 0);
        due("no fault", x.fault(0), NOT_FOUND);
        due("no order", x.perform(), 0);
        due("type", x.type('e'), 1);
        due("the old characters are gone", x.fault(2), 1);
        says("Returns the length it had.");
        due("one", x.clearText(), 1);
        due("empty", x.clearText(), 0);
        write(x, " ".repeat(60));
        due("full", x.clearText(), 60);
        due("no change", x.count(6), 1);
    }

    private static void fault() {
        section("## Promise 22: fault");
        plain("`int fault(int what)`: Tells about the fault of the text.");
        says("- `what`: 0: its position; 1: its reason; 2: its cause");
        TurningShop x = new TurningShop();
        write(x, "e;p2;");
        range("fault", 0, 2, x::fault);
        due("position", x.fault(0), 2);
        due("reason", x.fault(1), 2);
        due("cause", x.fault(2), NOT_POSSIBLE);
        fault("q", 0, 1, 0);
        fault("e;".repeat(29) + "x", 58, 1, 1);
        fault("e;".repeat(29) + "x5", 58, 1, 2);
        says("Returns that; INVALID_ARGUMENT if what is out of range;");
        due("fault(3)", x.fault(3), INVALID);
        due("fault(3) of no text", game("").fault(3), INVALID);
        due("fault(-1) of no text", game("").fault(-1), INVALID);
        says("NOT_FOUND if the text has no fault (also if it is empty).");
        noFault(new TurningShop(), "");
        noFault(game(OVER), "");
        noFault(game(OVER), "g2;e;");
        noFault(new TurningShop(), "e;");
        noFault(new TurningShop(), "e;".repeat(30));
        x.clearText();
        due("emptied", x.fault(0), NOT_FOUND);
        write(x, "e;p5;");
        x.undo();
        due("no order of it is done", x.count(1), 0);
    }

    private static void perform() {
        section("## Promise 23: perform");
        says("`int perform()`: Does all orders of the text, which stays.");
        TurningShop x = game("s3");
        write(x, "e;p0;p0;p1;p1;b8;e;e;e;e;p00;x3;");
        due("perform()", x.perform(), 12);
        same("as by calls", state(x), state(game(FORGE + " p0 x3")));
        due("the text stays", x.count(7), 32);
        write(x, "e;".repeat(30));
        due("perform()", x.perform(), 30);
        due("perform() again", x.perform(), 30);
        says("They are one change, also if there are none.");
        due("states", x.count(6), 4);
        x = game("s3");
        write(x, "p0;e;p0;");
        x.perform();
        due("one", x.count(6), 2);
        x.undo();
        same("undone at once", state(x), state(game("s3")));
        x.clearText();
        due("none", x.perform(), 0);
        due("is one, too", x.count(6), 2);
        same("that changes nothing", state(x), state(game("s3")));
        due("none when over", game(OVER).perform(), 0);
        says("Returns how many there are in it;");
        write(x, "g04;");
        due("one", x.perform(), 1);
        write(x, "e;".repeat(30));
        due("thirty", x.perform(), 30);
        says("NOT_POSSIBLE if it has a fault.");
        String before = state(x);
        for (String text : new String[] {"e;e;b10;", "e;e", "e;e;p2;", "q", "e;".repeat(29) + "e"}) {
            write(x, text);
            due("perform() of " + text, x.perform(), NOT_POSSIBLE);
        }
        same("no order is done", state(x), before);
        due("no state is kept", x.count(6), 4);
        write(x, "e;");
        due("with its fault mended", x.perform(), 1);
    }

    public static void main(String[] args) throws IOException {
        openDocument();
        newObject();
        begin();
        play();
        buy();
        scrap();
        end();
        alike();
        set();
        card();
        many();
        points();
        kindOf();
        turn();
        purse();
        outcome();
        advice();
        wealth();
        count();
        undo();
        type();
        clearText();
        fault();
        perform();
        allQuoted("## Promise 1: A new object", "## Not promised");
        finish();
    }
}
