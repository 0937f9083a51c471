import java.io.IOException;
import java.util.function.IntUnaryOperator;

/** Checks that rest on words of the document, and the games that they need more than once. */
class Quotes extends Checks {
    static final String FOUR_COINS = "p0 p0 p1 p1";
    /** Player 0 has a shilling as the first card of the hand, then field, penny, penny, penny. */
    static final String SHILLING = "s0 p0 p0 p1 p1 b1 e e e e";
    /** Player 0 has played all of that hand but the field; the row from 6 on. */
    static final String FIVE_COINS = "s0 p0 p0 p1 p1 b1 e e e s6 e s0 p0 p1 p1 p1";
    /** Player 0 has the hand 0 6 3 1 0, or one with a market in the witch's place; the row from 6 on. */
    static final String WITCH = FIVE_COINS + " b6 e e e e";
    static final String MARKET = FIVE_COINS + " b7 e e e e";
    /** Player 1 has the hand 8 3 0 0 0, or one with a scout in the forge's place; no discards. */
    static final String FORGE = "s3 e p0 p0 p1 p1 b8 e e e e";
    static final String SCOUT = "s4 e p0 p0 p1 p1 b9 e e e e";
    /** Player 0 has the hand 0 0 1 6 6. */
    static final String TWO_WITCHES = "s0 a7 s5 a21";
    /** Player 0 has a hand for eight coins, 1 2 3 0 1; or one for seven, 3 0 1 0 2; the row from 0 on. */
    static final String EIGHT_COINS = "s0 a18";
    static final String SEVEN_COINS = "s0 a12";
    /** Player 0 has the hand 1 0 0 0 4. */
    static final String MANOR_IN_HAND = "s0 a24";
    /** Player 0 has the hand 5 0 0 3 0. */
    static final String CURSE_IN_HAND = "s0 b5 e e e e";
    /** Player 1 has the hand 3 1 2 0 1, and one manor is left. */
    static final String LAST_MANOR = "s0 a27";
    /** Player 0 has the hand 2 2 7 8 9; no crown and no market is left, one forge and one scout; the row from 7 on. */
    static final String TWO_EMPTY_PILES = "s3 a19 s0 a13";
    /** Player 0 has bought a forge and scrapped four cards. */
    static final String THIN =
        "s8 e s0 e e e p0 p0 p1 p1 b8 e e e e p0 x0 e e e e p4 x0 e e e e p3 x0 e e e e p2 x2";
    /** Player 0, whose turn has ended, has four cards; then but one, the forge. */
    static final String THINNER = THIN + " e e e e p1 x2 e e e e p0 x0 e e p4 x0 e";
    static final String THINNEST = THINNER + " e p3 x0 e e p2 x0 e e p1 x0 e";
    /** Player 0 has 0 0 9 0 0 in the hand and one card in the deck. */
    static final String ONE_TO_DRAW = THIN + " p0 p0 p0 b9 e e p4 x1 e e e e p1 x1 e e";
    /** Player 0 has 0 9 0 in the hand, the forge played, and no other card. */
    static final String NONE_TO_DRAW = ONE_TO_DRAW + " e e p0 x0 e e p4 x0";
    /** The game is over by the manors; player 0 would be next. */
    static final String OVER = "s0 a28";

    private static Document document;
    private static String heading = "";

    /** The answers that are due stand here in any case: without the document only the quotes are not looked up. */
    static void openDocument() throws IOException {
        if (Document.isThere()) {
            document = Document.read();
        } else {
            System.out.println("the document is not there: no quote is looked up");
        }
    }

    static void section(String newHeading) {
        about = "";
        heading = newHeading;
        holds("the heading " + heading, document == null || document.section(heading));
    }

    /** What is due from here on rests on these words of the section. */
    static void says(String words) {
        about = "";
        holds("the words " + words + " in " + heading, document == null || document.quote(words));
        about = heading + ", \"" + words + "\": ";
    }

    /** Words that name no boundary case; PromisesTest and WalkTest rest on them. */
    static void plain(String words) {
        says(words);
    }

    /** Each word between two headings was quoted. */
    static void allQuoted(String firstHeading, String headingBehind) {
        about = "";
        if (document != null) {
            for (String line : document.unquoted(firstHeading, headingBehind)) {
                holds("a test quotes each word of: " + line, false);
            }
        }
    }

    /** Below, above and far beside a range an argument is refused; at its ends it is not. */
    static void range(String call, int low, int high, IntUnaryOperator answer) {
        for (int bad : new int[] {low - 1, high + 1, Integer.MIN_VALUE, Integer.MAX_VALUE}) {
            due(call + " of " + bad, answer.applyAsInt(bad), INVALID);
        }
        for (int good : new int[] {low, high}) {
            int got = answer.applyAsInt(good);
            holds(call + " of " + good + " is in its range, but answered " + got, got != INVALID);
        }
    }

    /** All that the history keeps, as far as it can be asked for. */
    static String state(TurningShop x) {
        StringBuilder all = new StringBuilder();
        for (int what : new int[] {0, 1, 2, 3, 4, 5, 20}) {
            all.append(x.count(what)).append(' ');
        }
        for (int what = 0; what < 7; what++) {
            all.append(x.turn(what)).append(' ');
        }
        for (int kind = 0; kind < 10; kind++) {
            all.append(x.kindOf(kind, 1)).append(' ').append(x.kindOf(kind, 3)).append(' ');
        }
        for (int player = 0; player < x.count(0); player++) {
            for (int where = DECK; where <= DISCARDS; where++) {
                all.append('|');
                int kind = x.card(player, where, 0);
                for (int i = 1; kind >= 0; i++) {
                    all.append(kind).append(' ');
                    kind = x.card(player, where, i);
                }
            }
        }
        return all.toString();
    }

    static void same(String what, String got, String want) {
        holds(what + " is\n  " + got + "\ninstead of\n  " + want + "\n ", got.equals(want));
    }
}
