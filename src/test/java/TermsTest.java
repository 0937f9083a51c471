import java.io.IOException;
import java.nio.file.Files;
import java.nio.file.Path;

/**
 * The document's terms, sentence by sentence: each that names a boundary case (too small, too large, empty, full, a
 * wrap-around, a refused call) has a test of its own under the words that it quotes.
 */
public final class TermsTest extends Quotes {
    private static void whatItIs() {
        section("## What it is");
        says("An object is used for at most 512 calls after it has been made");
        TurningShop x = new TurningShop();
        for (int call = 1; call < 512; call++) {
            due("call " + call + ", end()", x.end(), call % 2);
        }
        due("call 512, count(1)", x.count(1), 511);
    }

    private static void terms() {
        section("## Terms");
        plain("All numbers are whole numbers, where no float is told.");
        says("Sets of kinds are told as bits: bit k is for the kind k.");
        TurningShop x = game("s6 e");
        due("bit 0 alone", x.turn(5), 1);
        moves(x, "p0 p0 p1");
        due("bits 0, 1 and 9 for three coins", x.turn(5), 1 | 1 << 1 | 1 << 9);
        moves(x, "p1");
        due("and bit 8 for four", x.turn(5), 1 | 1 << 1 | 1 << 8 | 1 << 9);
        moves(x, "b0");
        due("the empty set", x.turn(5), 0);
    }

    // ---- kinds

    private static void kinds() {
        section("### Kinds");
        says("There are 10 kinds of cards.");
        TurningShop x = new TurningShop();
        range("kindOf(.., 0)", 0, 9, kind -> x.kindOf(kind, 0));
        int inAll = 0;
        for (int kind = 0; kind < 10; kind++) {
            inAll += x.many(0, 4, kind);
        }
        due("cards of all kinds", x.many(0, 4, 10), inAll);
        plain("Each has a price, and gives, when it is played, coins, cards (drawn), buys, actions, curses (to others) "
            + "and scraps; it has points at the end:");
        says("0 penny: price 0, 1 coin.");
        gives(game(""), 4, 0, 1, 0, 0, 0, 0, 0);
        bought(game(""), 0, 0, 0);
        says("1 shilling: price 3, 2 coins.");
        gives(game(SHILLING), 0, 1, 2, 0, 0, 0, 0, 0);
        bought(game("p0 p0 p1"), 1, 3, 0);
        says("2 crown: price 6, 3 coins.");
        gives(game(SEVEN_COINS), 4, 2, 3, 0, 0, 0, 0, 0);
        bought(game("s0 a8 p0 p0 p0 p1"), 2, 6, 0);
        says("3 field: price 2, 1 point.");
        bought(game("p0 p0"), 3, 2, 1);
        says("4 manor: price 8, 6 points.");
        bought(game(EIGHT_COINS + " p0 p0 p1 p1"), 4, 8, 6);
        says("5 curse: price 0, -1 point.");
        bought(game(""), 5, 0, -1);
        says("6 witch: price 5, 2 cards, 1 curse.");
        gives(game(WITCH), 1, 6, 0, 2, 0, 0, 1, 0);
        bought(game(FIVE_COINS), 6, 5, 0);
        says("7 market: price 5, 1 coin, 1 card, 1 buy, 1 action.");
        gives(game(MARKET), 1, 7, 1, 1, 1, 1, 0, 0);
        bought(game(FIVE_COINS), 7, 5, 0);
        says("8 forge: price 4, 1 action, 1 scrap.");
        gives(game(FORGE), 0, 8, 0, 0, 0, 1, 0, 1);
        bought(game("s3 e p0 p0 p1 p1"), 8, 4, 0);
        says("9 scout: price 3, 2 cards, 1 action.");
        gives(game(SCOUT), 0, 9, 0, 2, 0, 1, 0, 0);
        bought(game("s4 e p0 p0 p1"), 9, 3, 0);
    }

    /** Plays a card and looks at all that it gives; the curses are those that each other player gets. */
    private static void gives(TurningShop x, int place, int kind, int coins, int cards, int buys, int actions,
            int curses, int scraps) {
        int me = x.turn(0);
        int[] before = {x.turn(1), x.many(me, HAND, 10), x.turn(2), x.turn(3), x.kindOf(5, 1), x.turn(4)};
        due("play(" + place + ")", x.play(place), kind);
        due("coins more", x.turn(1) - before[0], coins);
        due("cards drawn", x.many(me, HAND, 10) - (before[1] - 1), cards);
        due("buys more", x.turn(2) - before[2], buys);
        due("actions more, less the one taken", x.turn(3) - before[3], actions - (kind >= 6 ? 1 : 0));
        due("curses given", before[4] - x.kindOf(5, 1), curses * (x.count(0) - 1));
        due("scraps more", x.turn(4) - before[5], scraps);
    }

    /** Buys a kind for just as many coins as there are; what it changes of the points. */
    private static void bought(TurningShop x, int kind, int price, int points) {
        int me = x.turn(0);
        int before = x.points(me);
        due("price of " + kind, x.kindOf(kind, 0), price);
        due("coins", x.turn(1), price);
        due("cards left of " + kind, x.buy(kind), x.kindOf(kind, 1));
        due("coins left", x.turn(1), 0);
        due("points more", x.points(me) - before, points);
    }

    private static void kindsPlayed() {
        says("The kinds 0 to 2 can be played freely,");
        TurningShop x = game(TWO_WITCHES + " p3");
        due("no action", x.turn(3), 0);
        due("a shilling without an action", x.play(2), 1);
        due("a penny without an action", x.play(0), 0);
        x = game("g4 b5 e b5 e s9 a41 p4");
        due("no action", x.turn(3), 0);
        due("a crown without an action", x.play(0), 2);

        says("6 to 9 take an action each,");
        x = game(TWO_WITCHES);
        due("the last action", x.turn(3), 1);
        due("a witch with it", x.play(3), 6);
        due("actions", x.turn(3), 0);
        due("a witch without one", x.play(3), NOT_POSSIBLE);
        x = game("s9 a42 p0");
        due("the market is in the hand", x.card(0, HAND, 1), 7);
        due("a market without an action", x.play(1), NOT_POSSIBLE);
        x = game("g3 s7 a19 p0");
        cards("without an action", x, 1, HAND, 3, 9, 8, 0, 0, 0);
        due("a scout without an action", x.play(1), NOT_POSSIBLE);
        due("a forge without an action", x.play(2), NOT_POSSIBLE);

        says("3 to 5 cannot be played.");
        due("a field", game("").play(2), NOT_POSSIBLE);
        x = game(MANOR_IN_HAND);
        due("the manor is in the hand", x.card(0, HAND, 4), 4);
        due("a manor", x.play(4), NOT_POSSIBLE);
        x = game(CURSE_IN_HAND);
        due("the curse is in the hand", x.card(0, HAND, 0), 5);
        due("a curse", x.play(0), NOT_POSSIBLE);

        says("The piles of the shop have 60, 20, 12, 24, 6, 10, 8, 8, 8 and 8 cards of the kinds 0 to 9 at first.");
        int[] first = {60, 20, 12, 24, 6, 10, 8, 8, 8, 8};
        for (int players = 2; players <= 4; players++) {
            x = game("g" + players);
            for (int kind = 0; kind < 10; kind++) {
                int dealt = 0;
                for (int player = 0; player < players; player++) {
                    dealt += x.many(player, 4, kind);
                }
                due("cards of the kind " + kind + ", " + players + " players", x.kindOf(kind, 1) + dealt, first[kind]);
            }
        }
    }

    // ---- players

    private static void players() {
        section("### Players");
        says("There are 2 to 4 players (2 at first), numbered from 0.");
        TurningShop x = new TurningShop();
        due("players at first", x.count(0), 2);
        range("begin", 2, 4, x::begin);
        for (int players = 2; players <= 4; players++) {
            TurningShop y = game("g" + players);
            due("players", y.count(0), players);
            range("points of " + players + " players", 0, players - 1, y::points);
        }

        says("At the beginning each gets 7 pennies and 3 fields out of the piles, as a deck, from above: "
            + "0, 0, 3, 0, 0, 3, 0, 0, 3, 0 (kinds), and draws 5 cards.");
        for (int players = 2; players <= 4; players++) {
            TurningShop y = game("g" + players);
            for (int player = 0; player < players; player++) {
                cards("begun", y, player, HAND, 0, 0, 3, 0, 0);
                cards("begun", y, player, DECK, 3, 0, 0, 3, 0);
                cards("begun", y, player, PLAYED);
                cards("begun", y, player, DISCARDS);
            }
            due("pennies left", y.kindOf(0, 1), 60 - 7 * players);
            due("fields left", y.kindOf(3, 1), 24 - 3 * players);
        }

        says("A player's cards are in the deck (the first one is on top), in the hand, played, or discards, "
            + "each in an order.");
        x = game(FORGE + " p2 p0 p2 x0 b0");
        cards("each somewhere", x, 1, DECK, 0, 3, 0, 0, 3, 0);
        cards("each somewhere", x, 1, HAND, 0);
        cards("each somewhere", x, 1, PLAYED, 0, 8, 0);
        cards("each somewhere", x, 1, DISCARDS, 0);
        due("the scrapped one nowhere", x.many(1, 4, 10), 11);
        draws();
    }

    private static void draws() {
        says("A card that is drawn is taken from the top of the deck to the end of the hand;");
        TurningShop x = game(SCOUT);
        cards("ahead of it", x, 1, DECK, 0, 3, 0, 0, 3, 0);
        moves(x, "p0");
        cards("drawn", x, 1, HAND, 3, 0, 0, 0, 0, 3);
        cards("drawn", x, 1, DECK, 0, 0, 3, 0);

        says("if the deck is empty, first all discards become the deck, the earliest one on top;");
        x = game("e");
        cards("the last card is drawn, and no other", x, 0, DECK);
        cards("so the discards stay", x, 0, DISCARDS, 0, 0, 3, 0, 0);
        moves(x, "e e");
        cards("the turn before is on top, that of now below", x, 0, HAND, 0, 0, 3, 0, 0);
        cards("the turn before is on top, that of now below", x, 0, DECK, 3, 0, 0, 3, 0);
        cards("the discards became the deck", x, 0, DISCARDS);
        x = game("s4 a16");
        cards("the deck is empty", x, 0, DECK);
        cards("ahead of it", x, 0, DISCARDS, 2, 3, 3, 7, 0, 2, 1, 0, 8, 3, 3, 0, 0, 1);
        moves(x, "p1");
        cards("two drawn from the discards", x, 0, HAND, 8, 0, 0, 0, 2, 3);
        cards("two drawn from the discards", x, 0, DECK, 3, 7, 0, 2, 1, 0, 8, 3, 3, 0, 0, 1);
        cards("two drawn from the discards", x, 0, DISCARDS);
        x = game("s2 a16");
        cards("one card is in the deck", x, 0, DECK, 0);
        cards("ahead of it", x, 0, DISCARDS, 3, 8, 8, 0, 0, 2, 3, 1, 0, 0, 1);
        moves(x, "p2");
        cards("one drawn from the deck, one from the discards", x, 0, HAND, 3, 3, 0, 0, 0, 3);
        cards("one drawn from the deck, one from the discards", x, 0, DECK, 8, 8, 0, 0, 2, 3, 1, 0, 0, 1);
        cards("one drawn from the deck, one from the discards", x, 0, DISCARDS);
        cards("what is played does not become the deck", x, 0, PLAYED, 9);

        says("if there are none either, nothing is drawn.");
        x = game(ONE_TO_DRAW);
        cards("ahead of it", x, 0, HAND, 0, 0, 9, 0, 0);
        due("a scout", x.play(2), 9);
        cards("one of two drawn", x, 0, HAND, 0, 0, 0, 0, 8);
        cards("one of two drawn", x, 0, DECK);
        x = game(NONE_TO_DRAW);
        cards("ahead of it", x, 0, HAND, 0, 9, 0);
        due("a scout", x.play(1), 9);
        cards("none drawn", x, 0, HAND, 0, 0);
        cards("none drawn", x, 0, PLAYED, 8, 9);
        cards("none drawn", x, 0, DECK);
        cards("none drawn", x, 0, DISCARDS);
    }

    // ---- turns

    private static void turns() {
        section("### Turns");
        says("Player 0 begins.");
        due("at first", game("").turn(0), 0);
        due("anew", game("g4 e e g3").turn(0), 0);
        says("A turn has 0 coins, 1 buy, 1 action and 0 scraps at first.");
        freshTurn("a new one", game(""));
        freshTurn("behind coins and buys that are left", game(MARKET + " p1 p0 e"));
        freshTurn("behind a buy that was used", game("b0 e"));
        freshTurn("behind an action that was used", game(WITCH + " p1 e"));
        freshTurn("behind scraps that are left", game("s2 a12 p2 p3 e"));
        freshTurn("anew", game(MARKET + " p1 p0 g2"));
        freshTurn("anew, behind scraps", game(FORGE + " p0 g2"));
        freshTurn("when the game is over", game(OVER));

        says("A card that is played goes from the hand to the end of the played cards, "
            + "and gives what it gives at once,");
        TurningShop x = game(FORGE);
        due("the last card of the hand", x.play(4), 0);
        due("its coin", x.turn(1), 1);
        due("the first card of the hand", x.play(0), 8);
        due("its scrap", x.turn(4), 1);
        cards("played", x, 1, PLAYED, 0, 8);
        cards("played", x, 1, HAND, 3, 0, 0);
        plain("in the order coins, cards, buys, actions, curses, scraps:");

        says("for a curse each other player, from the next one on, gets a curse from its pile to the end of the "
            + "discards, as long as there are any.");
        curses(WITCH, 1, 10, 1);
        curses(TWO_WITCHES, 4, 10, 1);
        curses("g3 s7 a19", 0, 10, 3);
        curses("g4 b5 e s0 a18", 2, 3, 7);
        curses("g4 b5 e b5 e s7 a7 s0 a15", 0, 2, 3);
        curses("g4 a1 s0 a18", 2, 1, 1);
        curses("g4 b5 e s0 a30", 1, 0, 0);

        says("Where a card is bought, its price is paid, one buy is used, and it goes from its pile to the end of the "
            + "discards.");
        x = game("s0 a2");
        cards("ahead of it", x, 0, DISCARDS, 1, 3, 0, 0, 0, 0);
        moves(x, "p1 p1 p2");
        due("just the price", x.turn(1), 3);
        due("a shilling", x.buy(1), 17);
        due("coins left", x.turn(1), 0);
        due("buys left", x.turn(2), 0);
        cards("bought", x, 0, DISCARDS, 1, 3, 0, 0, 0, 0, 1);
        x = game(MARKET + " p1 b0");
        due("a buy of two is left", x.turn(2), 1);
        x = game(LAST_MANOR + " p1 p1 p1 p1");
        due("the last card of a pile", x.buy(4), 0);
        due("none is left", x.kindOf(4, 1), 0);
        due("it is there", x.card(1, DISCARDS, 6), 4);
        scraps();
    }

    private static void freshTurn(String what, TurningShop x) {
        int[] first = {0, 1, 1, 0};
        for (int i = 0; i < first.length; i++) {
            due("turn(" + (i + 1) + "), " + what, x.turn(i + 1), first[i]);
        }
    }

    /** Plays the witch at a place; who gets a curse of those left, bit 0 for the next player, and so on. */
    private static void curses(String moves, int place, int left, int gets) {
        TurningShop x = game(moves);
        int me = x.turn(0);
        int players = x.count(0);
        int[] curses = new int[players];
        int[] discards = new int[players];
        for (int i = 0; i < players; i++) {
            curses[i] = x.many(i, 4, 5);
            discards[i] = x.many(i, DISCARDS, 10);
        }
        String with = " with " + left + " curses and " + players + " players";
        due("the pile", x.kindOf(5, 1), left);
        due("the witch" + with, x.play(place), 6);
        due("the pile then" + with, x.kindOf(5, 1), left - Integer.bitCount(gets));
        for (int step = 1; step < players; step++) {
            int other = (me + step) % players;
            int more = gets >> step - 1 & 1;
            String who = " of the player " + step + " behind" + with;
            due("curses more" + who, x.many(other, 4, 5) - curses[other], more);
            due("the end of the discards" + who, x.card(other, DISCARDS, discards[other]), more == 1 ? 5 : NOT_FOUND);
        }
        due("curses of the one who plays it" + with, x.many(me, 4, 5), curses[me]);
    }

    private static void scraps() {
        says("For a scrap a card of the hand is scrapped: it is out of the game.");
        TurningShop x = game("s2 a12 p2 p3");
        due("two scraps", x.turn(4), 2);
        cards("ahead of them", x, 0, HAND, 0, 0, 3);
        due("the last card of the hand", x.scrap(2), 3);
        due("the first card of the hand", x.scrap(0), 0);
        due("no scrap", x.scrap(0), NOT_POSSIBLE);
        cards("one is left", x, 0, HAND, 0);
        due("scrapped", x.count(4), 2);
        due("out of the game", x.count(5) + x.many(0, 4, 10) + x.many(1, 4, 10), 164 - 2);
        x = game("g4 s8 e s0 p0 p0 p1 p1 b8 e e e e e e e e p0");
        due("the forge's player scraps a field", x.scrap(0), 3);
        cards("the next one of four keeps all", x, 2, HAND, 0, 0, 3, 0, 0);
        cards("the last one of four keeps all", x, 3, HAND, 0, 0, 3, 0, 0);
        cards("the last one of four has no more", x, 3, PLAYED);
        cards("the last one of four has no more", x, 3, DISCARDS);
        x = game(THINNEST + " e p0");
        cards("the hand is empty", x, 0, HAND);
        due("one scrap, but no card for it", x.turn(4), 1);
        due("scrap(0)", x.scrap(0), INVALID);
    }

    private static void endsOfTurns() {
        says("At the end of a turn the hand, in its order, and then the played cards, in theirs, go to the end of the "
            + "discards;");
        TurningShop x = game(SHILLING + " p3 p0 b0 e");
        cards("bought, hand, played", x, 0, DISCARDS, 0, 3, 0, 0, 0, 1);
        cards("no card is played then", x, 0, PLAYED);
        x = game(FOUR_COINS + " e");
        cards("a hand of one card", x, 0, DISCARDS, 3, 0, 0, 0, 0);
        x = game(NONE_TO_DRAW + " p1 p0 p0 e");
        cards("an empty hand; the played ones are drawn again", x, 0, HAND, 8, 9, 0, 0);

        says("the player draws 5 cards;");
        x = game("e");
        cards("five of five", x, 0, HAND, 3, 0, 0, 3, 0);
        x = game(SHILLING + " e e e");
        cards("one from the deck, four from the discards", x, 0, HAND, 0, 1, 3, 0, 0);
        x = game(THINNER);
        due("four of four", x.many(0, HAND, 10), 4);
        due("in all", x.many(0, 4, 10), 4);
        x = game(THINNEST);
        cards("one of one", x, 0, HAND, 8);
        cards("one of one", x, 0, DECK);
        cards("one of one", x, 0, DISCARDS);

        says("the row of the shop turns;");
        due("from 0 to 1", game("e").turn(6), 1);
        due("within a turn it does not", game("p0 b0").turn(6), 0);

        says("the next player's turn begins.");
        for (int players = 2; players <= 4; players++) {
            x = game("g" + players);
            for (int i = 1; i <= 2 * players; i++) {
                due("end() " + i + " of " + players + " players", x.end(), i % players);
                due("the player", x.turn(0), i % players);
            }
        }
        endOfTheGame();
    }

    private static void endOfTheGame() {
        says("If the pile of manors is empty then, or three piles are, the game is over.");
        TurningShop x = game(LAST_MANOR);
        due("one manor is left", x.kindOf(4, 1), 1);
        due("not over", x.count(2), 0);
        moves(x, "p1 p1 p1 p1 b4");
        due("none is left", x.kindOf(4, 1), 0);
        due("not over within the turn", x.count(2), 0);
        moves(x, "e");
        due("over", x.count(2), 1);
        due("by one pile", x.count(3), 1);
        x = game(LAST_MANOR + " e");
        due("not over with one manor", x.count(2), 0);
        x = game(TWO_EMPTY_PILES);
        due("two empty piles", x.count(3), 2);
        due("not over by two", x.count(2), 0);
        moves(x, "e");
        due("not over at the next end either", x.count(2), 0);
        x = game(TWO_EMPTY_PILES + " p0 p0 b9");
        due("three empty piles", x.count(3), 3);
        due("not over within the turn", x.count(2), 0);
        due("end()", x.end(), 1);
        due("over by three", x.count(2), 1);
        due("manors are left", x.kindOf(4, 1), 6);
        x = game(TWO_EMPTY_PILES);
        due("the turn that buys the last forge and the last scout", x.alike(1), 1);
        due("four empty piles", x.count(3), 4);
        due("over by four", x.count(2), 1);
        due("manors are left", x.kindOf(4, 1), 6);
    }

    private static void row() {
        says("The row of the shop has 6 kinds one behind another, from the first one on (kind 0 at first; behind the "
            + "kind 9 comes the kind 0);");
        due("at first", game("").turn(6), 0);
        due("anew", game("s7 e g2").turn(6), 0);
        for (int first = 0; first < 10; first++) {
            TurningShop x = game("s" + first + " e");
            due("the first one", x.turn(6), first);
            for (int i = 0; i < 10; i++) {
                due("the kind " + i + " behind " + first, x.kindOf((first + i) % 10, 2), i < 6 ? 1 : 0);
            }
        }

        says("only these can be bought.");
        for (int first = 0; first < 10; first++) {
            TurningShop x = game("s" + first + " e " + FOUR_COINS);
            for (int i = 6; i < 10; i++) {
                due("the kind " + i + " behind " + first, x.buy((first + i) % 10), NOT_POSSIBLE);
            }
            int last = (first + 5) % 10;
            boolean cheap = x.kindOf(last, 0) <= 4;
            due("the last one of the row from " + first, x.buy(last), cheap ? x.kindOf(last, 1) : NOT_POSSIBLE);
        }

        says("When it turns, its first kind is that which is setting 0 behind.");
        for (int first = 0; first < 10; first++) {
            for (int setting = 0; setting < 10; setting++) {
                TurningShop x = game("s" + first + " e s" + setting + " e");
                due("setting " + setting + " from " + first, x.turn(6), (first + setting) % 10);
            }
        }
    }

    // ---- going on alike

    private static void alike() {
        section("### Going on alike");
        plain("If all play alike, each player in turn:");
        says("plays cards that take an action, the first one of the hand that there is, as long as there is an action "
            + "and such a card (scraps are not used);");
        TurningShop x = game(TWO_WITCHES + " a1");
        due("one action, one witch of two", x.kindOf(5, 1), 9);
        cards("bought; the second witch in the hand", x, 0, DISCARDS, 8, 6, 3, 3, 6, 0, 0, 1);
        x = game("s9 a42");
        cards("a witch ahead of a market and a forge", x, 0, HAND, 6, 3, 7, 8, 1);
        moves(x, "a1");
        cards("so they are not played", x, 0, DISCARDS, 8, 3, 7, 8, 6, 1, 0, 0);
        cards("all others ahead of a witch", x, 1, HAND, 8, 9, 8, 7, 6);
        moves(x, "a1");
        due("so all are played", x.kindOf(5, 1), 7);
        due("nothing is scrapped", x.count(4), 0);
        x = game("s1 a8 p2 a1");
        due("no such card in the hand", x.count(1), 9);

        says("then all cards that can be played freely, the first ones of the hand first;");
        x = game("s1 a12");
        cards("ahead of it", x, 0, HAND, 0, 0, 2, 3, 7);
        moves(x, "a1");
        cards("bought, hand, played", x, 0, DISCARDS, 2, 3, 7, 0, 0, 2, 0);
        x = game("s2 a22");
        cards("none in the hand", x, 0, HAND, 3, 3, 3, 3, 9);
        buys();
    }

    private static void buys() {
        says("then buys, as long as there is a buy and something to buy,");
        TurningShop x = game(TWO_EMPTY_PILES);
        due("discards", x.many(0, DISCARDS, 10), 7);
        moves(x, "a1");
        int[] bought = {8, 9, 1, 1, 1};
        for (int i = 0; i < bought.length; i++) {
            due("five buys, sixteen coins: number " + i, x.card(0, DISCARDS, 7 + i), bought[i]);
        }
        due("then comes the hand, or what was played", x.card(0, DISCARDS, 12), 7);
        x = game("s0 p0 p0 p1 p1 b0 a1");
        cards("no buy", x, 0, DISCARDS, 0, 3, 0, 0, 0, 0);
        x = game("s3 a12 a1");
        cards("buys, but nothing for two coins", x, 0, DISCARDS, 7, 3, 7, 7, 0, 1, 0, 0);

        says("the kind of the row with the highest price that is above 0 and not above the coins,");
        x = game("s1 a6");
        due("two coins", x.purse(), 2);
        int inPiles = x.count(5);
        moves(x, "a1");
        due("nothing is bought of 6, 7, 8, 9, 0, 1, not even for nothing", x.count(5), inPiles);
        x = game("s0 a8");
        due("six coins", x.purse(), 6);
        moves(x, "a1");
        due("a crown for just its price", x.kindOf(2, 1), 11);
        x = game(SEVEN_COINS + " a1");
        due("no manor for seven coins", x.kindOf(4, 1), 6);
        x = game(EIGHT_COINS + " a1");
        due("a manor for eight", x.kindOf(4, 1), 5);
        x = game("s4 e s0 a1");
        cards("four coins: the forge, none that is not in the row", x, 1, DISCARDS, 8, 3, 0, 0, 0, 0);

        says("and whose pile is not empty,");
        x = game("g4 s0 a32");
        due("no crown, no shilling", x.kindOf(2, 1) + x.kindOf(1, 1), 0);
        due("five coins", x.purse(), 5);
        moves(x, "a1");
        due("a field", x.kindOf(3, 1), 11);

        says("of several the highest kind;");
        x = game("s9 e a1");
        cards("a shilling or a scout for three", x, 1, DISCARDS, 9, 3, 0, 0, 0, 0);
        x = game("s1 a4");
        due("five coins", x.purse(), 5);
        moves(x, "a1");
        due("a witch or a market: no witch", x.kindOf(6, 1), 8);
        due("a market", x.kindOf(7, 1), 7);
        x = game("s4 a41");
        due("no market is left", x.kindOf(7, 1), 0);
        due("six coins", x.purse(), 6);
        moves(x, "a1");
        due("so a witch", x.kindOf(6, 1), 7);
        plain("then ends the turn.");
        howFar();
    }

    private static void howFar() {
        says("The turn of now goes on as it is.");
        TurningShop x = game("s0 p0 p0 b5 a1");
        cards("no buy is left", x, 0, DISCARDS, 5, 3, 0, 0, 0, 0);
        x = game("s0 p4 p0 a1");
        cards("four coins, two of them from before", x, 0, DISCARDS, 1, 3, 0, 0, 0, 0);
        x = game(TWO_WITCHES + " p4 a1");
        due("no action is left", x.kindOf(5, 1), 9);

        says("It goes on until the game is over, or for 60 ends of turns.");
        x = game("s6 a10");
        due("60 of 61 turns", x.outcome(2), 60);
        due("not over then", x.outcome(3), 0);
        moves(x, "a1");
        due("60 of 60 turns", x.outcome(2), 60);
        due("over then", x.outcome(3), 1);
        moves(x, "a1");
        due("59 of 59 turns", x.outcome(2), 59);
        due("over then", x.outcome(3), 1);
        due("all but one", alike(x, 58), 58);
        due("one more", x.outcome(2), 1);
        moves(x, "a1");
        due("over", x.count(2), 1);
        due("none more", x.outcome(2), 0);
    }

    // ---- settings and texts

    private static void settings() {
        section("### Settings");
        says("The settings are (in parentheses: range; first value): 0 (0 to 9; 1).");
        TurningShop x = new TurningShop();
        due("the first value", x.count(20), 1);
        range("set(0, ..)", 0, 9, value -> x.set(0, value));
        range("set(.., 5)", 0, 0, what -> x.set(what, 5));
    }

    private static void texts() {
        section("### Texts");
        says("There is a text of at most 60 characters, initially empty:");
        TurningShop x = new TurningShop();
        due("at first", x.count(7), 0);
        noFault(x, "e;".repeat(30));
        due("60 characters", x.count(7), 60);
        due("one more", x.type('e'), LIMIT);
        due("still 60", x.count(7), 60);
        due("30 orders", x.perform(), 30);
        due("30 turns", x.count(1), 30);

        says("orders, each followed by \";\":");
        fault("e", 0, 1, 1);
        fault("e;e", 2, 1, 1);
        fault("e;;", 2, 1, 0);
        fault(";", 0, 1, 0);
        fault("e,e;", 0, 1, 1);
        fault("e;".repeat(29) + "ee", 58, 1, 1);
        says("\"p\" a place in the hand (played),");
        noFault(new TurningShop(), "p0;p3;");
        fault("p5;", 0, 2, INVALID);
        says("\"b\" a kind (bought),");
        noFault(game("s9 e s0"), "b0;");
        noFault(game("s9 e p0 p0 p1 s0"), "b9;");
        fault("b10;", 0, 2, INVALID);
        says("\"x\" a place in the hand (scrapped),");
        noFault(game(FORGE + " p0"), "x0;");
        noFault(game(FORGE + " p0"), "x3;");
        fault(game(FORGE + " p0"), "x4;", 0, 2, INVALID);
        says("\"e\" (the turn ends)");
        noFault(new TurningShop(), "e;");
        fault("e1;", 0, 1, 1);
        says("or \"g\" players (begun anew);");
        noFault(new TurningShop(), "g2;g4;");
        fault("g1;", 0, 2, INVALID);
        fault("g5;", 0, 2, INVALID);
        says("numbers of 1 or 2 digits, 0 ahead allowed.");
        fault("p;", 0, 1, 1);
        noFault(new TurningShop(), "p0;");
        noFault(new TurningShop(), "p01;b05;");
        noFault(new TurningShop(), "g04;");
        fault("p000;", 0, 1, 3);
        fault("g002;", 0, 1, 3);
        fault("b99;", 0, 2, INVALID);
        faults();
    }

    private static void faults() {
        says("The fault of the text is the position, from 0, of the first character of the first order that is not "
            + "possible;");
        fault("b6;b6;", 0, 2, NOT_POSSIBLE);
        fault("e;b9;b9;", 2, 2, NOT_POSSIBLE);
        fault("e;".repeat(29) + "q;", 58, 1, 0);
        fault("e;".repeat(28) + "b99;", 56, 2, INVALID);
        says("its reason is 1 if it is not of this form, its \";\" included,");
        fault("b10", 0, 1, 3);
        fault("b6,", 0, 1, 2);
        fault("p9x;", 0, 1, 2);
        fault("E;", 0, 1, 0);
        says("and otherwise 2, when those ahead of it are done;");
        fault("p0;p0;p1;p1;p0;", 12, 2, NOT_POSSIBLE);
        fault("b1;p0;p0;p1;b1;", 0, 2, NOT_POSSIBLE);
        noFault(new TurningShop(), "p0;p0;p1;b1;");
        fault("b0;e;b9;", 5, 2, NOT_POSSIBLE);
        fault(game(OVER), "g2;p5;", 3, 2, INVALID);
        says("its cause is with the reason 1 at which character of the order, from 0, it breaks off");
        String[] orders = {"q;", "a0;", " e;", "0;", "e ;", "eb;", "p;", "px;", "b-1;", "x ;", "g/;", "g:;", "p0x;",
            "b1b;", "x0 ;", "g2-;", "p00x;", "b001;", "x123;", "g040;"};
        int[] breaks = {0, 0, 0, 0, 1, 1, 1, 1, 1, 1, 1, 1, 2, 2, 2, 2, 3, 3, 3, 3};
        for (int i = 0; i < orders.length; i++) {
            fault(orders[i], 0, 1, breaks[i]);
            fault("p4;e;" + orders[i], 5, 1, breaks[i]);
        }
        for (char letter = 32; letter < 127; letter++) {
            if ("pbxeg".indexOf(letter) < 0) {
                fault(letter + "0;", 0, 1, 0);
                fault("e;" + letter + ";", 2, 1, 0);
            }
        }
        says("(of one that the text ends too early it is its length),");
        for (String order : "p b x e g p0 b1 x2 g3 p00 b01 x02 g04".split(" ")) {
            fault(order, 0, 1, order.length());
            fault("e;".repeat(28) + order, 56, 1, order.length());
        }
        fault("p0;".repeat(2) + "e;".repeat(26) + "e", 58, 1, 1);
        fault("e;".repeat(29) + "p0", 58, 1, 2);
        says("and with the reason 2 the error code that the call returns for it.");
        sameCode("", "p2;", x -> x.play(2));
        sameCode("", "p5;", x -> x.play(5));
        sameCode("", "b2;", x -> x.buy(2));
        sameCode("", "b10;", x -> x.buy(10));
        sameCode("", "x0;", x -> x.scrap(0));
        sameCode("", "x5;", x -> x.scrap(5));
        sameCode("", "g0;", x -> x.begin(0));
        sameCode(OVER, "e;", TurningShop::end);
        sameCode(OVER, "p0;", x -> x.play(0));
        sameCode(OVER, "p9;", x -> x.play(9));
    }

    private interface Call {
        int on(TurningShop x);
    }

    private static void sameCode(String moves, String order, Call call) {
        int code = call.on(game(moves));
        holds("an error for " + order, code == INVALID || code == NOT_POSSIBLE);
        fault(game(moves), order, 0, 2, code);
    }

    // ---- changes and errors

    private static void changes() {
        section("### Changes and errors");
        says("The changes are the calls of begin, play, buy, scrap, end, alike, set and perform that return no error.");
        oneMore("begin", new TurningShop(), x -> x.begin(2));
        oneMore("play", new TurningShop(), x -> x.play(0));
        oneMore("buy", new TurningShop(), x -> x.buy(0));
        oneMore("scrap", forgePlayedInOneState(), x -> x.scrap(0));
        oneMore("end", new TurningShop(), TurningShop::end);
        oneMore("alike", new TurningShop(), x -> x.alike(20));
        oneMore("set to what it was", new TurningShop(), x -> x.set(0, 1));
        oneMore("perform of no order", new TurningShop(), TurningShop::perform);
        TurningShop x = game("e e");
        moves(x, "u");
        due("undo is none", x.count(6), 1);
        x.type('p');
        x.clearText();
        x.type('q');
        x.fault(0);
        x.outcome(0);
        x.advice(0);
        due("what is typed or asked for is none", x.count(6), 1);
        history();
    }

    private static void oneMore(String call, TurningShop x, Call change) {
        int states = x.count(6);
        holds(call + " is possible", change.on(x) >= 0);
        due("states behind " + call, x.count(6), states + 1);
    }

    /** By a text: so the history has room for more states. */
    private static TurningShop forgePlayedInOneState() {
        TurningShop x = new TurningShop();
        x.set(0, 3);
        write(x, "e;p0;p0;p1;p1;b8;e;e;e;e;p0;");
        due("perform()", x.perform(), 11);
        return x;
    }

    private static void history() {
        says("A history of at most 4 states is kept:");
        TurningShop x = new TurningShop();
        for (int i = 1; i <= 10; i++) {
            x.end();
            due("states behind " + i + " changes", x.count(6), Math.min(i, 4));
        }
        says("each change records everything before it but the text,");
        undone("", y -> y.begin(4));
        undone("g4 e e", y -> y.begin(2));
        undone("p0", y -> y.play(0));
        undone(WITCH, y -> y.play(1));
        undone(MARKET, y -> y.play(1));
        undone(FORGE, y -> y.play(0));
        undone("s2 a16", y -> y.play(2));
        undone(FOUR_COINS, y -> y.buy(1));
        undone(FORGE + " p0", y -> y.scrap(0));
        undone("s2 a12 p2 p3 x0", y -> y.scrap(0));
        undone("s3 e e e", TurningShop::end);
        undone(LAST_MANOR + " p1 p1 p1 p1 b4", TurningShop::end);
        undone("s7", y -> y.alike(20));
        undone("s7", y -> y.set(0, 0));
        undone(OVER, y -> y.begin(3));
        says("and if there are 5 states then, the oldest one is dropped.");
        x = game("s2 s3 s4 s5 s6");
        int[] values = {5, 4, 3, 2};
        for (int i = 0; i < 4; i++) {
            due("undo()", x.undo(), 3 - i);
            due("the setting", x.count(20), values[i]);
        }
        due("the state before the first change is gone", x.undo(), NOT_POSSIBLE);
        due("the setting", x.count(20), 2);
        moves(x, "s7 s8 u u");
        due("there is room again", x.count(20), 2);
        errors();
    }

    /** The change is another state, its undoing the same one; the text is neither. */
    private static void undone(String moves, Call call) {
        TurningShop x = game(moves);
        String before = state(x);
        write(x, "e;e");
        int answer = call.on(x);
        holds("the change is possible behind " + moves, answer >= 0);
        x.type('q');
        holds("the change changes something behind " + moves, !state(x).equals(before));
        x.undo();
        same("what is undone behind " + moves, state(x), before);
        due("the text", x.count(7), 4);
    }

    private static void errors() {
        says("If several errors apply to a call, INVALID_ARGUMENT is returned rather than NOT_POSSIBLE,");
        TurningShop x = game(OVER);
        due("play of no card when over", x.play(5), INVALID);
        due("buy of no kind when over", x.buy(10), INVALID);
        due("scrap of no card when over", x.scrap(-1), INVALID);
        due("alike(0) when over", x.alike(0), INVALID);
        due("alike(21) when over", x.alike(21), INVALID);
        due("scrap of no card without a scrap", game("").scrap(5), INVALID);
        due("buy of no kind without a buy", game("b0").buy(10), INVALID);
        due("play of no card without an action", game(WITCH + " p1").play(6), INVALID);
        due("type of no character without room", full().type(31), INVALID);
        due("advice of nothing without anything to buy", game("b0").advice(2), INVALID);
        due("card of no player that is not there", game("").card(2, 0, 99), INVALID);
        due("fault of nothing without a fault", game("").fault(3), INVALID);
        plain("and NOT_POSSIBLE rather than NOT_FOUND.");

        says("A call that returns an error changes nothing.");
        changesNothing("");
        changesNothing(FORGE + " p0 x0");
        changesNothing(TWO_WITCHES + " p3 b5");
        changesNothing(OVER);

        says("If there is no player with a certain number, or no card at a place of the hand, "
            + "this is INVALID_ARGUMENT.");
        for (int players = 2; players <= 4; players++) {
            TurningShop y = game("g4 g" + players);
            range("card of a player", 0, players - 1, player -> y.card(player, 0, 0));
            range("many of a player", 0, players - 1, player -> y.many(player, 0, 0));
            range("points of a player", 0, players - 1, y::points);
            range("wealth of a player", 0, players - 1, y::wealth);
        }
        range("play in a hand of five", 0, 4, place -> game("").play(place));
        range("play in a hand of six", 0, 5, place -> game(SCOUT + " p0").play(place));
        range("scrap in a hand of four", 0, 3, place -> game(FORGE + " p0").scrap(place));
        due("play in an empty hand", game(THINNEST + " e p0").play(0), INVALID);
        whenOver();
    }

    private static TurningShop full() {
        TurningShop x = new TurningShop();
        write(x, "q".repeat(60));
        return x;
    }

    /** Calls that are refused in any state, and those that are refused in some. */
    private static void changesNothing(String moves) {
        TurningShop x = game(moves);
        write(x, "b99;");
        String before = state(x);
        int states = x.count(6);
        int refused = 0;
        int[] answers = {x.begin(1), x.begin(5), x.play(-1), x.play(99), x.buy(-1), x.buy(10), x.buy(4), x.scrap(-1),
            x.scrap(99), x.scrap(0), x.alike(0), x.alike(21), x.set(0, -1), x.set(0, 10), x.set(1, 1), x.perform(),
            x.type(31), x.type(127), x.card(9, 9, 9), x.many(9, 9, 9), x.points(9), x.kindOf(10, 0), x.turn(9),
            x.outcome(9), x.advice(9), x.wealth(9), x.count(9), x.fault(9), x.play(placeOf(x, 3))};
        for (int answer : answers) {
            refused += answer == INVALID || answer == NOT_POSSIBLE ? 1 : 0;
        }
        due("refused behind " + moves, refused, answers.length);
        same("what it is behind " + moves, state(x), before);
        due("states", x.count(6), states);
        due("the text", x.count(7), 4);
        due("its fault", x.fault(2), INVALID);
    }

    private static void whenOver() {
        says("When the game is over, play, buy, scrap, end and alike are NOT_POSSIBLE "
            + "(where they are not INVALID_ARGUMENT).");
        TurningShop x = game(OVER);
        boolean penny = false;
        for (int place = 0; place < 5; place++) {
            penny |= x.card(0, HAND, place) == 0;
            due("play(" + place + ")", x.play(place), NOT_POSSIBLE);
            due("scrap(" + place + ")", x.scrap(place), NOT_POSSIBLE);
        }
        holds("a penny was among them", penny);
        for (int kind = 0; kind < 10; kind++) {
            due("buy(" + kind + ")", x.buy(kind), NOT_POSSIBLE);
        }
        due("end()", x.end(), NOT_POSSIBLE);
        due("alike(1)", x.alike(1), NOT_POSSIBLE);
        due("alike(20)", x.alike(20), NOT_POSSIBLE);
        due("set", x.set(0, 9), 0);
        due("perform() of no order", x.perform(), 0);
        write(x, "e;");
        due("perform() of one", x.perform(), NOT_POSSIBLE);
        moves(x, "u u u");
        due("undone it is not over", x.count(2), 0);
        due("end()", x.end(), 1);
        due("begin", game(OVER).begin(4), 32);
    }

    private static void constants() throws IOException {
        says("The constants: `INVALID_ARGUMENT = -1000001`: An argument is out of its range, or there is no such "
            + "player or card.");
        due("INVALID_ARGUMENT", TurningShop.INVALID_ARGUMENT, -1000001);
        says("`NOT_POSSIBLE = -1000002`: The call is not possible in the present state.");
        due("NOT_POSSIBLE", TurningShop.NOT_POSSIBLE, -1000002);
        says("`LIMIT_REACHED = -1000003`: There is no more room.");
        due("LIMIT_REACHED", TurningShop.LIMIT_REACHED, -1000003);
        says("`NOT_FOUND = -1000004`: There is no such value.");
        due("NOT_FOUND", TurningShop.NOT_FOUND, -1000004);
        String source = Files.readString(Path.of("src/main/java/TurningShop.java"));
        interfaceSays(source, "moves", "begin", "play", "buy", "scrap", "end", "alike", "set");
        interfaceSays(source, "what there is", "card", "many", "points", "kindOf", "turn");
        interfaceSays(source, "what would be", "purse", "outcome", "advice", "wealth", "count", "undo");
        interfaceSays(source, "texts", "type", "clearText", "fault", "perform");
    }

    private static void interfaceSays(String source, String title, String... calls) {
        plain("Ahead of the calls `" + String.join("`, `", calls) + "` the interface says: ---- " + title + ".");
        int at = source.indexOf("// ---- " + title + "\n");
        holds("the title " + title, at >= 0);
        for (String call : calls) {
            int next = source.indexOf("public int " + call + "(");
            holds(call + " in its order", next > at);
            at = next;
        }
    }

    public static void main(String[] args) throws IOException {
        openDocument();
        whatItIs();
        terms();
        kinds();
        kindsPlayed();
        players();
        turns();
        endsOfTurns();
        row();
        alike();
        settings();
        texts();
        changes();
        constants();
        allQuoted("## Terms", "## Promise 1: A new object");
        finish();
    }
}
