import java.util.Arrays;

/** A game of decks that are built from a shop whose row turns. */
public final class TurningShop {
    public static final int INVALID_ARGUMENT = -1000001;
    public static final int NOT_POSSIBLE = -1000002;
    public static final int LIMIT_REACHED = -1000003;
    public static final int NOT_FOUND = -1000004;

    private static final int KINDS = 10;
    private static final int PENNY = 0;
    private static final int LAST_FREE = 2;
    private static final int MANOR = 4;
    private static final int CURSE = 5;
    private static final int FIRST_WITH_ACTION = 6;

    private static final int[] PRICE = {0, 3, 6, 2, 8, 0, 5, 5, 4, 3};
    private static final int[] GIVES_COINS = {1, 2, 3, 0, 0, 0, 0, 1, 0, 0};
    private static final int[] GIVES_CARDS = {0, 0, 0, 0, 0, 0, 2, 1, 0, 2};
    private static final int[] GIVES_BUYS = {0, 0, 0, 0, 0, 0, 0, 1, 0, 0};
    private static final int[] GIVES_ACTIONS = {0, 0, 0, 0, 0, 0, 0, 1, 1, 1};
    private static final int[] GIVES_CURSES = {0, 0, 0, 0, 0, 0, 1, 0, 0, 0};
    private static final int[] GIVES_SCRAPS = {0, 0, 0, 0, 0, 0, 0, 0, 1, 0};
    private static final int[] POINTS = {0, 0, 0, 1, 6, -1, 0, 0, 0, 0};
    private static final int[] FIRST_PILES = {60, 20, 12, 24, 6, 10, 8, 8, 8, 8};
    private static final int ALL_CARDS = 164;
    private static final int[] FIRST_DECK = {0, 0, 3, 0, 0, 3, 0, 0, 3, 0};
    private static final int FIRST_DECK_CARDS = 10;

    private static final int FEWEST_PLAYERS = 2;
    private static final int MOST_PLAYERS = 4;
    private static final int DRAWN_CARDS = 5;
    private static final int ROW_KINDS = 6;
    private static final int PILES_TO_END = 3;
    private static final int POINTS_AHEAD = 100;
    private static final int MOST_SETTING = 9;
    private static final int FIRST_SETTING = 1;
    private static final int MOST_ALIKE = 20;
    private static final int FORESEEN_TURNS = 60;

    // A player's cards lie in four parts, in this order: so a deck that is
    // empty takes the discards behind it, and the discards take the hand and
    // the played cards behind them, by moving a border alone.
    private static final int DECK = 0;
    private static final int DISCARDS = 1;
    private static final int HAND = 2;
    private static final int PLAYED = 3;
    private static final int PARTS = 4;
    private static final int ALL_PARTS = 16;

    private static final int HISTORY_STATES = 4;
    private static final int TEXT_CHARACTERS = 60;
    private static final int ORDER_DIGITS = 2;

    private static final int NOT_OF_THE_FORM = 1;
    private static final int NOT_TO_BE_DONE = 2;
    private static final int FAULTY = -1;

    private Game now;
    // Holds no state that counts: changes and forecasts are tried in it.
    private Game spare;
    private final Game[] history;
    private int states;
    private final char[] text;
    private int textLength;
    private int faultPosition;
    private int faultReason;
    private int faultCause;

    public TurningShop() {
        now = new Game();
        spare = new Game();
        history = new Game[HISTORY_STATES];
        for (int i = 0; i < HISTORY_STATES; i++) {
            history[i] = new Game();
        }
        text = new char[TEXT_CHARACTERS];
        now.setting = FIRST_SETTING;
        now.startGame(FEWEST_PLAYERS);
    }

    // ---- moves

    public int begin(int players) {
        return settle(copyOfNow().startGame(players));
    }

    public int play(int place) {
        return settle(copyOfNow().playCard(place));
    }

    public int buy(int kind) {
        return settle(copyOfNow().buyCard(kind));
    }

    public int scrap(int place) {
        return settle(copyOfNow().scrapCard(place));
    }

    public int end() {
        return settle(copyOfNow().endTurn());
    }

    public int alike(int turns) {
        if (turns < 1 || turns > MOST_ALIKE) {
            return INVALID_ARGUMENT;
        }
        if (now.over) {
            return NOT_POSSIBLE;
        }
        return settle(copyOfNow().goOnAlike(turns));
    }

    public int set(int what, int value) {
        if (what != 0 || value < 0 || value > MOST_SETTING) {
            return INVALID_ARGUMENT;
        }
        int before = now.setting;
        copyOfNow().setting = value;
        return settle(before);
    }

    // ---- what there is

    public int card(int player, int where, int index) {
        if (!now.hasPlayer(player) || where < 0 || where >= PARTS || index < 0) {
            return INVALID_ARGUMENT;
        }
        int kind = now.cardOf(player, partAt(where), index);
        return kind < 0 ? NOT_FOUND : kind;
    }

    public int many(int player, int where, int kind) {
        if (!now.hasPlayer(player) || where < 0 || where > PARTS || kind < 0 || kind > KINDS) {
            return INVALID_ARGUMENT;
        }
        if (where == PARTS) {
            return now.howMany(player, DECK, PLAYED, kind);
        }
        int part = partAt(where);
        return now.howMany(player, part, part, kind);
    }

    public int points(int player) {
        if (!now.hasPlayer(player)) {
            return INVALID_ARGUMENT;
        }
        return now.sumOf(player, POINTS) + POINTS_AHEAD;
    }

    public int kindOf(int kind, int what) {
        if (kind < 0 || kind >= KINDS) {
            return INVALID_ARGUMENT;
        }
        switch (what) {
            case 0:
                return PRICE[kind];
            case 1:
                return now.piles[kind];
            case 2:
                return now.isInRow(kind) ? 1 : 0;
            case 3:
                return now.scrapped[kind];
            case 4:
                return now.whyNotBought(kind);
            default:
                return INVALID_ARGUMENT;
        }
    }

    public int turn(int what) {
        switch (what) {
            case 0:
                return now.player;
            case 1:
                return now.coins;
            case 2:
                return now.buys;
            case 3:
                return now.actions;
            case 4:
                return now.scraps;
            case 5:
                return now.kindsToBuy();
            case 6:
                return now.rowFirst;
            default:
                return INVALID_ARGUMENT;
        }
    }

    // ---- what would be

    public int purse() {
        // Among the kinds that give coins, only those that are played freely count.
        int sum = now.coins;
        for (int kind = PENNY; kind <= LAST_FREE; kind++) {
            sum += GIVES_COINS[kind] * now.howMany(now.player, HAND, HAND, kind);
        }
        return sum;
    }

    public int outcome(int what) {
        if (what < 0 || what > 4) {
            return INVALID_ARGUMENT;
        }
        Game later = copyOfNow();
        int turns = later.goOnAlike(FORESEEN_TURNS);
        int winner = later.leader();
        switch (what) {
            case 0:
                return winner;
            case 1:
                return later.sumOf(winner, POINTS) + POINTS_AHEAD;
            case 2:
                return turns;
            case 3:
                return later.over ? 1 : 0;
            default:
                return later.piles[CURSE];
        }
    }

    public int advice(int what) {
        if (what < 0 || what > 1) {
            return INVALID_ARGUMENT;
        }
        if (now.kindsToBuy() == 0) {
            return NOT_FOUND;
        }
        int best = KINDS;
        int most = 0;
        for (int kind = 0; kind < KINDS; kind++) {
            if (now.whyNotBought(kind) == 0) {
                int reached = pointsAfter(kind);
                if (best == KINDS || reached > most) {
                    best = kind;
                    most = reached;
                }
            }
        }
        int withoutBuying = pointsAfter(KINDS);
        if (withoutBuying > most) {
            best = KINDS;
            most = withoutBuying;
        }
        return what == 0 ? best : most + POINTS_AHEAD;
    }

    public int wealth(int player) {
        if (!now.hasPlayer(player)) {
            return INVALID_ARGUMENT;
        }
        int cards = now.howMany(player, DECK, PLAYED, KINDS);
        if (cards <= 0) {
            return NOT_FOUND;
        }
        int coins = now.sumOf(player, GIVES_COINS);
        return bitsOf((float) coins / (float) cards);
    }

    public int count(int what) {
        switch (what) {
            case 0:
                return now.players;
            case 1:
                return now.endedTurns;
            case 2:
                return now.over ? 1 : 0;
            case 3:
                return now.emptyPiles();
            case 4:
                return sum(now.scrapped);
            case 5:
                return sum(now.piles);
            case 6:
                return states;
            case 7:
                return textLength;
            case 20:
                return now.setting;
            default:
                return INVALID_ARGUMENT;
        }
    }

    public int undo() {
        if (states <= 0 || states > HISTORY_STATES) {
            return NOT_POSSIBLE;
        }
        states--;
        Game undone = now;
        now = history[states];
        history[states] = undone;
        return states;
    }

    // ---- texts

    public int type(int character) {
        if (character < 32 || character > 126) {
            return INVALID_ARGUMENT;
        }
        if (textLength >= TEXT_CHARACTERS) {
            return LIMIT_REACHED;
        }
        text[textLength] = (char) character;
        textLength++;
        return textLength;
    }

    public int clearText() {
        int before = textLength;
        textLength = 0;
        return before;
    }

    public int fault(int what) {
        if (what < 0 || what > 2) {
            return INVALID_ARGUMENT;
        }
        if (tryText() != FAULTY) {
            return NOT_FOUND;
        }
        if (what == 0) {
            return faultPosition;
        }
        return what == 1 ? faultReason : faultCause;
    }

    public int perform() {
        int orders = tryText();
        if (orders == FAULTY) {
            return NOT_POSSIBLE;
        }
        return settle(orders);
    }

    // ---- changes

    private Game copyOfNow() {
        spare.copyFrom(now);
        return spare;
    }

    /** Makes the spare game the game of now, unless the answer is an error. */
    private int settle(int answer) {
        if (answer < 0) {
            return answer;
        }
        if (states >= HISTORY_STATES) {
            dropOldestState();
        }
        Game unused = history[states];
        history[states] = now;
        states++;
        now = spare;
        spare = unused;
        return answer;
    }

    private void dropOldestState() {
        Game oldest = history[0];
        for (int i = 1; i < HISTORY_STATES; i++) {
            history[i - 1] = history[i];
        }
        history[HISTORY_STATES - 1] = oldest;
        states = HISTORY_STATES - 1;
    }

    // ---- forecasts

    /** The points in the end of the player of now, if a kind is bought first; of KINDS nothing is. */
    private int pointsAfter(int kind) {
        Game later = copyOfNow();
        if (kind < KINDS) {
            later.buyCard(kind);
        }
        later.goOnAlike(FORESEEN_TURNS);
        return later.sumOf(now.player, POINTS);
    }

    // ---- orders of the text

    /** Does the orders in the spare game; how many there are, or FAULTY. */
    private int tryText() {
        copyOfNow();
        int at = 0;
        int orders = 0;
        while (orders < TEXT_CHARACTERS && at < textLength) {
            boolean numbered = isNumberedOrder(text[at]);
            if (!numbered && text[at] != 'e') {
                return keepFault(at, NOT_OF_THE_FORM, 0);
            }
            int digits = numbered ? digitsFrom(at + 1) : 0;
            int behind = at + 1 + digits;
            if (numbered && digits == 0 || behind >= textLength || text[behind] != ';') {
                return keepFault(at, NOT_OF_THE_FORM, behind - at);
            }
            int answer = doOrder(text[at], numberBetween(at + 1, behind));
            if (answer < 0) {
                return keepFault(at, NOT_TO_BE_DONE, answer);
            }
            at = behind + 1;
            orders++;
        }
        return orders;
    }

    private static boolean isNumberedOrder(char letter) {
        return letter == 'p' || letter == 'b' || letter == 'x' || letter == 'g';
    }

    private int digitsFrom(int first) {
        int digits = 0;
        for (int i = first; i < textLength && digits < ORDER_DIGITS; i++) {
            if (text[i] < '0' || text[i] > '9') {
                return digits;
            }
            digits++;
        }
        return digits;
    }

    private int numberBetween(int first, int behind) {
        int number = 0;
        for (int i = first; i < behind && i < textLength; i++) {
            number = number * 10 + (text[i] - '0');
        }
        return number;
    }

    private int doOrder(int letter, int number) {
        switch (letter) {
            case 'p':
                return spare.playCard(number);
            case 'b':
                return spare.buyCard(number);
            case 'x':
                return spare.scrapCard(number);
            case 'g':
                return spare.startGame(number);
            default:
                return spare.endTurn();
        }
    }

    private int keepFault(int position, int reason, int cause) {
        faultPosition = position;
        faultReason = reason;
        faultCause = cause;
        return FAULTY;
    }

    // ---- numbers

    /** The part of a player's cards that the face calls by another number. */
    private static int partAt(int where) {
        switch (where) {
            case 0:
                return DECK;
            case 1:
                return HAND;
            case 2:
                return PLAYED;
            default:
                return DISCARDS;
        }
    }

    private static int sum(int[] numbers) {
        int sum = 0;
        for (int i = 0; i < numbers.length; i++) {
            sum += numbers[i];
        }
        return sum;
    }

    /** The bits of a float from 0 on: the library's own way to them is not to be used. */
    private static int bitsOf(float value) {
        if (value <= 0f) {
            return 0;
        }
        float scaled = value;
        int exponent = 127;
        for (int i = 0; i < 126 && scaled < 1f; i++) {
            scaled = scaled * 2f;
            exponent--;
        }
        for (int i = 0; i < 127 && scaled >= 2f; i++) {
            scaled = scaled / 2f;
            exponent++;
        }
        int fraction = (int) ((scaled - 1f) * 8388608f);
        return (exponent << 23) | fraction;
    }

    /** Everything of a state that the history keeps. */
    private static final class Game {
        // The kinds of all players' cards, one part behind another; starts
        // tells where each part begins, its last element where all end. No
        // card is ever made: so all of them, the piles' too, bound the places.
        final int[] cards;
        final int[] starts;
        final int[] piles;
        final int[] scrapped;
        int players;
        int player;
        int coins;
        int buys;
        int actions;
        int scraps;
        int rowFirst;
        int setting;
        int endedTurns;
        boolean over;

        Game() {
            cards = new int[ALL_CARDS];
            starts = new int[ALL_PARTS + 1];
            piles = new int[KINDS];
            scrapped = new int[KINDS];
        }

        void copyFrom(Game other) {
            System.arraycopy(other.cards, 0, cards, 0, ALL_CARDS);
            System.arraycopy(other.starts, 0, starts, 0, ALL_PARTS + 1);
            System.arraycopy(other.piles, 0, piles, 0, KINDS);
            System.arraycopy(other.scrapped, 0, scrapped, 0, KINDS);
            players = other.players;
            player = other.player;
            coins = other.coins;
            buys = other.buys;
            actions = other.actions;
            scraps = other.scraps;
            rowFirst = other.rowFirst;
            setting = other.setting;
            endedTurns = other.endedTurns;
            over = other.over;
        }

        // ---- moves

        int startGame(int newPlayers) {
            if (newPlayers < FEWEST_PLAYERS || newPlayers > MOST_PLAYERS) {
                return INVALID_ARGUMENT;
            }
            players = newPlayers;
            player = 0;
            rowFirst = 0;
            endedTurns = 0;
            over = false;
            System.arraycopy(FIRST_PILES, 0, piles, 0, KINDS);
            Arrays.fill(scrapped, 0);
            dealDecks();
            for (int i = 0; i < players; i++) {
                drawCards(i, DRAWN_CARDS);
            }
            beginTurn();
            return piles[PENNY];
        }

        private void dealDecks() {
            int dealt = 0;
            for (int i = 0; i < MOST_PLAYERS; i++) {
                starts[i * PARTS + DECK] = dealt;
                for (int j = 0; j < FIRST_DECK_CARDS && i < players; j++) {
                    cards[dealt] = FIRST_DECK[j];
                    piles[FIRST_DECK[j]]--;
                    dealt++;
                }
                starts[i * PARTS + DISCARDS] = dealt;
                starts[i * PARTS + HAND] = dealt;
                starts[i * PARTS + PLAYED] = dealt;
            }
            starts[ALL_PARTS] = dealt;
        }

        private void beginTurn() {
            coins = 0;
            buys = 1;
            actions = 1;
            scraps = 0;
        }

        int playCard(int place) {
            int kind = cardOf(player, HAND, place);
            if (kind < 0) {
                return INVALID_ARGUMENT;
            }
            boolean takesAction = kind >= FIRST_WITH_ACTION;
            if (over || !takesAction && kind > LAST_FREE || takesAction && actions <= 0) {
                return NOT_POSSIBLE;
            }
            if (takesAction) {
                actions--;
            }
            moveToEnd(player * PARTS + HAND, place, player * PARTS + PLAYED);
            coins += GIVES_COINS[kind];
            drawCards(player, GIVES_CARDS[kind]);
            buys += GIVES_BUYS[kind];
            actions += GIVES_ACTIONS[kind];
            for (int i = 0; i < GIVES_CURSES[kind]; i++) {
                giveCurses();
            }
            scraps += GIVES_SCRAPS[kind];
            return kind;
        }

        private void giveCurses() {
            int other = playerBehind(player);
            for (int i = 1; i < players; i++) {
                takeFromPile(other, CURSE);
                other = playerBehind(other);
            }
        }

        int buyCard(int kind) {
            if (kind < 0 || kind >= KINDS) {
                return INVALID_ARGUMENT;
            }
            if (whyNotBought(kind) != 0) {
                return NOT_POSSIBLE;
            }
            coins -= PRICE[kind];
            buys--;
            takeFromPile(player, kind);
            return piles[kind];
        }

        int scrapCard(int place) {
            int kind = cardOf(player, HAND, place);
            if (kind < 0) {
                return INVALID_ARGUMENT;
            }
            if (over || scraps <= 0) {
                return NOT_POSSIBLE;
            }
            scraps--;
            scrapped[kind]++;
            // What lies behind the end of all parts belongs to nobody.
            moveToEnd(player * PARTS + HAND, place, ALL_PARTS - 1);
            starts[ALL_PARTS]--;
            return kind;
        }

        int endTurn() {
            if (over) {
                return NOT_POSSIBLE;
            }
            int behind = starts[player * PARTS + PARTS];
            starts[player * PARTS + HAND] = behind;
            starts[player * PARTS + PLAYED] = behind;
            drawCards(player, DRAWN_CARDS);
            rowFirst = (rowFirst + setting) % KINDS;
            player = playerBehind(player);
            beginTurn();
            endedTurns++;
            over = piles[MANOR] <= 0 || emptyPiles() >= PILES_TO_END;
            return player;
        }

        // ---- going on alike

        /** Returns how many turns were ended. */
        int goOnAlike(int turns) {
            int done = 0;
            while (done < turns && !over) {
                playTurnAlike();
                done++;
            }
            return done;
        }

        private void playTurnAlike() {
            // No card is played twice in a turn, nor bought twice: so all cards bound both.
            for (int i = 0; i < ALL_CARDS; i++) {
                int place = actions > 0 ? firstInHand(FIRST_WITH_ACTION, KINDS - 1) : -1;
                if (place < 0) {
                    break;
                }
                playCard(place);
            }
            for (int i = 0; i < ALL_CARDS; i++) {
                int place = firstInHand(PENNY, LAST_FREE);
                if (place < 0) {
                    break;
                }
                playCard(place);
            }
            for (int i = 0; i < ALL_CARDS; i++) {
                int kind = dearestToBuy();
                if (kind < 0) {
                    break;
                }
                buyCard(kind);
            }
            endTurn();
        }

        private int firstInHand(int lowestKind, int highestKind) {
            int from = starts[player * PARTS + HAND];
            int behind = starts[player * PARTS + PLAYED];
            for (int i = from; i < behind; i++) {
                int kind = kindAt(i);
                if (kind >= lowestKind && kind <= highestKind) {
                    return i - from;
                }
            }
            return -1;
        }

        private int dearestToBuy() {
            int dearest = -1;
            int price = 1;
            for (int kind = 0; kind < KINDS; kind++) {
                if (PRICE[kind] >= price && whyNotBought(kind) == 0) {
                    dearest = kind;
                    price = PRICE[kind];
                }
            }
            return dearest;
        }

        // ---- where cards go

        private void drawCards(int who, int howMany) {
            int deck = who * PARTS + DECK;
            for (int i = 0; i < howMany; i++) {
                if (starts[deck] == starts[deck + DISCARDS]) {
                    starts[deck + DISCARDS] = starts[deck + HAND];
                }
                if (starts[deck] == starts[deck + DISCARDS]) {
                    return;
                }
                moveToEnd(deck, 0, deck + HAND);
            }
        }

        /** Moves a card to the end of a part that lies behind its own. */
        private void moveToEnd(int part, int place, int laterPart) {
            int at = starts[part] + place;
            int last = starts[laterPart + 1] - 1;
            if (at < 0 || at < starts[part] || at > last || last >= ALL_CARDS) {
                return;
            }
            int kind = cards[at];
            System.arraycopy(cards, at + 1, cards, at, last - at);
            cards[last] = kind;
            for (int i = part + 1; i <= laterPart; i++) {
                starts[i]--;
            }
        }

        /** Puts a card at the end of the discards, as long as there are any in its pile. */
        private void takeFromPile(int who, int kind) {
            int behind = starts[who * PARTS + HAND];
            int end = starts[ALL_PARTS];
            if (piles[kind] <= 0 || behind < 0 || behind > end || end >= ALL_CARDS) {
                return;
            }
            System.arraycopy(cards, behind, cards, behind + 1, end - behind);
            cards[behind] = kind;
            for (int i = who * PARTS + HAND; i <= ALL_PARTS; i++) {
                starts[i]++;
            }
            piles[kind]--;
        }

        // ---- what there is

        boolean hasPlayer(int who) {
            return who >= 0 && who < players;
        }

        private int playerBehind(int who) {
            return who + 1 < players ? who + 1 : 0;
        }

        /** The kind of a card, or -1 if there are not so many. */
        int cardOf(int who, int part, int place) {
            int from = starts[who * PARTS + part];
            int length = starts[who * PARTS + part + 1] - from;
            return place < 0 || place >= length ? -1 : kindAt(from + place);
        }

        /** The kind of a card by its place among all players' cards, or -1 outside of them. */
        private int kindAt(int index) {
            return index < 0 || index >= ALL_CARDS ? -1 : cards[index];
        }

        /** Counts the cards of a kind in some parts; of KINDS those of all kinds. */
        int howMany(int who, int firstPart, int lastPart, int kind) {
            int from = starts[who * PARTS + firstPart];
            int behind = starts[who * PARTS + lastPart + 1];
            if (kind == KINDS) {
                return behind - from;
            }
            int found = 0;
            for (int i = from; i < behind; i++) {
                if (kindAt(i) == kind) {
                    found++;
                }
            }
            return found;
        }

        /** Adds up what all cards of a player are worth, each by its kind. */
        int sumOf(int who, int[] worth) {
            int sum = 0;
            for (int kind = 0; kind < worth.length; kind++) {
                sum += worth[kind] * howMany(who, DECK, PLAYED, kind);
            }
            return sum;
        }

        int leader() {
            int best = 0;
            for (int i = 1; i < players; i++) {
                if (sumOf(i, POINTS) > sumOf(best, POINTS)) {
                    best = i;
                }
            }
            return best;
        }

        int emptyPiles() {
            int empty = 0;
            for (int i = 0; i < KINDS; i++) {
                if (piles[i] <= 0) {
                    empty++;
                }
            }
            return empty;
        }

        boolean isInRow(int kind) {
            return (kind - rowFirst + KINDS) % KINDS < ROW_KINDS;
        }

        int whyNotBought(int kind) {
            if (over) {
                return 1;
            }
            if (!isInRow(kind)) {
                return 2;
            }
            if (piles[kind] <= 0) {
                return 3;
            }
            if (buys <= 0) {
                return 4;
            }
            return coins < PRICE[kind] ? 5 : 0;
        }

        int kindsToBuy() {
            int set = 0;
            for (int kind = 0; kind < KINDS; kind++) {
                if (whyNotBought(kind) == 0) {
                    set |= 1 << kind;
                }
            }
            return set;
        }
    }
}
