import java.util.ArrayList;
import java.util.Arrays;
import java.util.List;
import java.util.TreeMap;

/**
 * Walks of up to 512 calls, the same ones in each run, on the class and on a
 * model of the document that is written with lists: every answer must agree.
 */
public final class WalkTest {
    static final int INVALID = -1000001;
    static final int NOT_POSSIBLE = -1000002;
    static final int LIMIT = -1000003;
    static final int NOT_FOUND = -1000004;

    /** The facts of "Kinds": price, coins, cards, buys, actions, curses, scraps, points, pile. */
    enum Kind {
        PENNY(0, 1, 0, 0, 0, 0, 0, 0, 60),
        SHILLING(3, 2, 0, 0, 0, 0, 0, 0, 20),
        CROWN(6, 3, 0, 0, 0, 0, 0, 0, 12),
        FIELD(2, 0, 0, 0, 0, 0, 0, 1, 24),
        MANOR(8, 0, 0, 0, 0, 0, 0, 6, 6),
        CURSE(0, 0, 0, 0, 0, 0, 0, -1, 10),
        WITCH(5, 0, 2, 0, 0, 1, 0, 0, 8),
        MARKET(5, 1, 1, 1, 1, 0, 0, 0, 8),
        FORGE(4, 0, 0, 0, 1, 0, 1, 0, 8),
        SCOUT(3, 0, 2, 0, 1, 0, 0, 0, 8);

        final int price, coins, cards, buys, actions, curses, scraps, points, pile;

        Kind(int price, int coins, int cards, int buys, int actions, int curses, int scraps, int points, int pile) {
            this.price = price;
            this.coins = coins;
            this.cards = cards;
            this.buys = buys;
            this.actions = actions;
            this.curses = curses;
            this.scraps = scraps;
            this.points = points;
            this.pile = pile;
        }

        boolean free() {
            return ordinal() <= 2;
        }

        boolean action() {
            return ordinal() >= 6;
        }
    }

    static final Kind[] KINDS = Kind.values();

    static final class Seat {
        List<Integer> deck = new ArrayList<>();
        List<Integer> hand = new ArrayList<>();
        List<Integer> played = new ArrayList<>();
        List<Integer> discards = new ArrayList<>();

        Seat copy() {
            Seat c = new Seat();
            c.deck.addAll(deck);
            c.hand.addAll(hand);
            c.played.addAll(played);
            c.discards.addAll(discards);
            return c;
        }

        List<Integer> at(int where) {
            return where == 0 ? deck : where == 1 ? hand : where == 2 ? played : discards;
        }

        List<Integer> all() {
            List<Integer> all = new ArrayList<>();
            for (int w = 0; w < 4; w++) all.addAll(at(w));
            return all;
        }

        void draw() {
            if (deck.isEmpty()) {
                deck = discards;
                discards = new ArrayList<>();
            }
            if (!deck.isEmpty()) hand.add(deck.remove(0));
        }

        int points() {
            int sum = 0;
            for (int k : all()) sum += KINDS[k].points;
            return sum;
        }
    }

    static final class Table {
        List<Seat> seats = new ArrayList<>();
        int[] piles = new int[10];
        int[] scrapped = new int[10];
        int player, coins, buys, actions, scraps, first, setting, ended;
        boolean over;

        Table copy() {
            Table c = new Table();
            for (Seat s : seats) c.seats.add(s.copy());
            c.piles = piles.clone();
            c.scrapped = scrapped.clone();
            c.player = player;
            c.coins = coins;
            c.buys = buys;
            c.actions = actions;
            c.scraps = scraps;
            c.first = first;
            c.setting = setting;
            c.ended = ended;
            c.over = over;
            return c;
        }

        Seat seat() {
            return seats.get(player);
        }

        int begin(int players) {
            if (players < 2 || players > 4) return INVALID;
            seats.clear();
            for (Kind k : KINDS) piles[k.ordinal()] = k.pile;
            scrapped = new int[10];
            for (int p = 0; p < players; p++) {
                Seat s = new Seat();
                s.deck.addAll(Arrays.asList(0, 0, 3, 0, 0, 3, 0, 0, 3, 0));
                piles[0] -= 7;
                piles[3] -= 3;
                for (int i = 0; i < 5; i++) s.draw();
                seats.add(s);
            }
            player = 0;
            first = 0;
            ended = 0;
            over = false;
            freshTurn();
            return piles[0];
        }

        void freshTurn() {
            coins = 0;
            buys = 1;
            actions = 1;
            scraps = 0;
        }

        int play(int place) {
            if (place < 0 || place >= seat().hand.size()) return INVALID;
            int number = seat().hand.get(place);
            Kind kind = KINDS[number];
            if (over) return NOT_POSSIBLE;
            if (!kind.free() && !(kind.action() && actions > 0)) return NOT_POSSIBLE;
            if (kind.action()) actions--;
            seat().hand.remove(place);
            seat().played.add(number);
            coins += kind.coins;
            for (int i = 0; i < kind.cards; i++) seat().draw();
            buys += kind.buys;
            actions += kind.actions;
            for (int i = 0; i < kind.curses; i++) {
                for (int step = 1; step < seats.size(); step++) {
                    if (piles[5] > 0) {
                        piles[5]--;
                        seats.get((player + step) % seats.size()).discards.add(5);
                    }
                }
            }
            scraps += kind.scraps;
            return number;
        }

        boolean inRow(int kind) {
            for (int i = 0; i < 6; i++) if ((first + i) % 10 == kind) return true;
            return false;
        }

        int why(int kind) {
            if (over) return 1;
            if (!inRow(kind)) return 2;
            if (piles[kind] == 0) return 3;
            if (buys == 0) return 4;
            return coins < KINDS[kind].price ? 5 : 0;
        }

        int buy(int kind) {
            if (kind < 0 || kind > 9) return INVALID;
            if (why(kind) != 0) return NOT_POSSIBLE;
            coins -= KINDS[kind].price;
            buys--;
            piles[kind]--;
            seat().discards.add(kind);
            return piles[kind];
        }

        int scrap(int place) {
            if (place < 0 || place >= seat().hand.size()) return INVALID;
            if (over || scraps == 0) return NOT_POSSIBLE;
            scraps--;
            int kind = seat().hand.remove(place);
            scrapped[kind]++;
            return kind;
        }

        int empty() {
            int n = 0;
            for (int p : piles) if (p == 0) n++;
            return n;
        }

        int end() {
            if (over) return NOT_POSSIBLE;
            Seat s = seat();
            s.discards.addAll(s.hand);
            s.discards.addAll(s.played);
            s.hand.clear();
            s.played.clear();
            for (int i = 0; i < 5; i++) s.draw();
            first = (first + setting) % 10;
            player = (player + 1) % seats.size();
            freshTurn();
            ended++;
            over = piles[4] == 0 || empty() >= 3;
            return player;
        }

        int firstOf(boolean action) {
            List<Integer> hand = seat().hand;
            for (int i = 0; i < hand.size(); i++) {
                Kind k = KINDS[hand.get(i)];
                if (action ? k.action() : k.free()) return i;
            }
            return -1;
        }

        int dearest() {
            int best = -1;
            for (int k = 9; k >= 0; k--) {
                if (KINDS[k].price > 0 && why(k) == 0 && (best < 0 || KINDS[k].price > KINDS[best].price)) best = k;
            }
            return best;
        }

        int goOn(int turns) {
            int done = 0;
            while (done < turns && !over) {
                while (actions > 0 && firstOf(true) >= 0) play(firstOf(true));
                while (firstOf(false) >= 0) play(firstOf(false));
                while (dearest() >= 0) buy(dearest());
                end();
                done++;
            }
            return done;
        }
    }

    static final class Model {
        Table now = new Table();
        List<Table> history = new ArrayList<>();
        StringBuilder text = new StringBuilder();
        int faultAt, faultReason, faultCause;

        Model() {
            now.setting = 1;
            now.begin(2);
        }

        int changed(Table before, int answer) {
            if (answer < 0) return answer;
            history.add(before);
            if (history.size() > 4) history.remove(0);
            return answer;
        }

        boolean noPlayer(int player) {
            return player < 0 || player >= now.seats.size();
        }

        int alike(int turns) {
            if (turns < 1 || turns > 20) return INVALID;
            if (now.over) return NOT_POSSIBLE;
            return changed(now.copy(), now.goOn(turns));
        }

        int set(int what, int value) {
            if (what != 0 || value < 0 || value > 9) return INVALID;
            Table before = now.copy();
            int old = now.setting;
            now.setting = value;
            return changed(before, old);
        }

        int card(int player, int where, int index) {
            if (noPlayer(player) || where < 0 || where > 3 || index < 0) return INVALID;
            List<Integer> cards = now.seats.get(player).at(where);
            return index < cards.size() ? cards.get(index) : NOT_FOUND;
        }

        int many(int player, int where, int kind) {
            if (noPlayer(player) || where < 0 || where > 4 || kind < 0 || kind > 10) return INVALID;
            Seat seat = now.seats.get(player);
            int n = 0;
            for (int k : where == 4 ? seat.all() : seat.at(where)) if (kind == 10 || kind == k) n++;
            return n;
        }

        int points(int player) {
            return noPlayer(player) ? INVALID : now.seats.get(player).points() + 100;
        }

        int kindOf(int kind, int what) {
            if (kind < 0 || kind > 9 || what < 0 || what > 4) return INVALID;
            if (what == 0) return KINDS[kind].price;
            if (what == 1) return now.piles[kind];
            if (what == 2) return now.inRow(kind) ? 1 : 0;
            return what == 3 ? now.scrapped[kind] : now.why(kind);
        }

        int buyable() {
            int bits = 0;
            for (int k = 0; k < 10; k++) if (now.why(k) == 0) bits |= 1 << k;
            return bits;
        }

        int turn(int what) {
            int[] all = {now.player, now.coins, now.buys, now.actions, now.scraps, buyable(), now.first};
            return what < 0 || what > 6 ? INVALID : all[what];
        }

        int purse() {
            int sum = now.coins;
            for (int k : now.seat().hand) if (KINDS[k].free()) sum += KINDS[k].coins;
            return sum;
        }

        int outcome(int what) {
            if (what < 0 || what > 4) return INVALID;
            Table later = now.copy();
            int turns = later.goOn(60);
            int best = 0;
            for (int p = 1; p < later.seats.size(); p++) {
                if (later.seats.get(p).points() > later.seats.get(best).points()) best = p;
            }
            int[] all = {best, later.seats.get(best).points() + 100, turns, later.over ? 1 : 0, later.piles[5]};
            return all[what];
        }

        int pointsAfter(int kind) {
            Table later = now.copy();
            if (kind < 10) later.buy(kind);
            later.goOn(60);
            return later.seats.get(now.player).points() + 100;
        }

        int advice(int what) {
            if (what < 0 || what > 1) return INVALID;
            int best = -1;
            int most = -1;
            for (int k = 0; k <= 10; k++) {
                if (k == 10 ? best < 0 : now.why(k) != 0) continue;
                int reached = pointsAfter(k);
                if (reached > most) {
                    most = reached;
                    best = k;
                }
            }
            return best < 0 ? NOT_FOUND : what == 0 ? best : most;
        }

        int wealth(int player) {
            if (noPlayer(player)) return INVALID;
            List<Integer> all = now.seats.get(player).all();
            int sum = 0;
            for (int k : all) sum += KINDS[k].coins;
            return all.isEmpty() ? NOT_FOUND : Float.floatToIntBits((float) sum / (float) all.size());
        }

        int count(int what) {
            switch (what) {
                case 0: return now.seats.size();
                case 1: return now.ended;
                case 2: return now.over ? 1 : 0;
                case 3: return now.empty();
                case 4: return Arrays.stream(now.scrapped).sum();
                case 5: return Arrays.stream(now.piles).sum();
                case 6: return history.size();
                case 7: return text.length();
                case 20: return now.setting;
                default: return INVALID;
            }
        }

        int undo() {
            if (history.isEmpty()) return NOT_POSSIBLE;
            now = history.remove(history.size() - 1);
            return history.size();
        }

        int type(int c) {
            if (c < 32 || c > 126) return INVALID;
            if (text.length() == 60) return LIMIT;
            text.append((char) c);
            return text.length();
        }

        int clearText() {
            int n = text.length();
            text.setLength(0);
            return n;
        }

        /** How far an order is of the form; its whole length if it is. */
        static int fits(String order) {
            String[] forms = {"e;", "[pbxg][0-9];", "[pbxg][0-9][0-9];"};
            for (int n = order.length(); n > 0; n--) {
                for (String form : forms) {
                    if (java.util.regex.Pattern.compile(form).matcher(order.substring(0, n)).matches()) return n;
                }
            }
            return -1;
        }

        /** The longest beginning that some order of the form begins with. */
        static int breaksOff(String rest) {
            String[] begins = {"e", "[pbxg]", "[pbxg][0-9]", "[pbxg][0-9][0-9]"};
            int far = 0;
            for (int n = 1; n <= rest.length(); n++) {
                for (String begin : begins) {
                    if (rest.substring(0, n).matches(begin)) far = n;
                }
            }
            return far;
        }

        int run(Table table) {
            faultReason = 0;
            int orders = 0;
            String all = text.toString();
            for (int at = 0; at < all.length(); orders++) {
                String rest = all.substring(at);
                int n = fits(rest);
                if (n < 0) {
                    faultAt = at;
                    faultReason = 1;
                    faultCause = breaksOff(rest);
                    return -1;
                }
                int number = n > 2 ? Integer.parseInt(rest.substring(1, n - 1)) : 0;
                char c = rest.charAt(0);
                int answer = c == 'p' ? table.play(number) : c == 'b' ? table.buy(number)
                    : c == 'x' ? table.scrap(number) : c == 'g' ? table.begin(number) : table.end();
                if (answer < 0) {
                    faultAt = at;
                    faultReason = 2;
                    faultCause = answer;
                    return -1;
                }
                at += n;
            }
            return orders;
        }

        int fault(int what) {
            if (what < 0 || what > 2) return INVALID;
            if (run(now.copy()) >= 0) return NOT_FOUND;
            return what == 0 ? faultAt : what == 1 ? faultReason : faultCause;
        }

        int perform() {
            Table later = now.copy();
            int orders = run(later);
            if (orders < 0) return NOT_POSSIBLE;
            Table before = now;
            now = later;
            return changed(before, orders);
        }
    }

    static final int ALL_WALKS = 4000;
    static long seed;
    static int wrong = 0;
    static final TreeMap<String, Integer> seen = new TreeMap<>();
    static TurningShop shop;
    static Model model;
    static int walk;
    static int calls;
    static boolean greedy;

    static int below(int n) {
        seed = seed * 6364136223846793005L + 1442695040888963407L;
        return (int) ((seed >>> 33) % n);
    }

    static void note(String what) {
        seen.merge(what, 1, Integer::sum);
    }

    static void same(String call, int got, int due) {
        calls++;
        String name = call.substring(0, call.indexOf('('));
        note(name + (due == INVALID ? " invalid" : due == NOT_POSSIBLE ? " not possible"
            : due == LIMIT ? " limit" : due == NOT_FOUND ? " not found" : " done"));
        if (got != due && wrong++ < 20) {
            System.out.println("walk " + walk + ", call " + calls + ": " + call + " answered " + got + ", due is " + due);
        }
    }

    /** A number in a range, or now and then one beside it. */
    static int around(int low, int high) {
        int r = below(40);
        if (r == 0) return low - 1;
        if (r == 1) return high + 1;
        if (r == 2) return below(2) == 0 ? Integer.MIN_VALUE : Integer.MAX_VALUE;
        return low + below(high - low + 1);
    }

    static int change(String call, int got, int due, Table before) {
        same(call, got, model.changed(before, due));
        return due;
    }

    static void play(int place) {
        int witches = model.now.piles[5];
        Table before = model.now.copy();
        int due = change("play(" + place + ")", shop.play(place), model.now.play(place), before);
        if (due >= 0) {
            note("played " + due);
            int players = model.now.seats.size();
            if (due == 6) note(witches >= players - 1 ? "all cursed" : witches == 0 ? "none cursed" : "some cursed");
        }
    }

    static void buy(int kind) {
        if (kind >= 0 && kind < 10) note("why " + model.now.why(kind));
        Table before = model.now.copy();
        int due = change("buy(" + kind + ")", shop.buy(kind), model.now.buy(kind), before);
        if (due >= 0) note("bought " + kind);
    }

    static void scrap(int place) {
        Table before = model.now.copy();
        int due = change("scrap(" + place + ")", shop.scrap(place), model.now.scrap(place), before);
        if (due >= 0) note("scrapped");
    }

    static void end() {
        Table before = model.now.copy();
        change("end()", shop.end(), model.now.end(), before);
        if (model.now.over && !before.over) note(model.now.piles[4] == 0 ? "over by manors" : "over by three piles");
    }

    static void begin() {
        int players = around(2, 4);
        Table before = model.now.copy();
        change("begin(" + players + ")", shop.begin(players), model.now.begin(players), before);
    }

    static void alike(int turns) {
        int due = model.alike(turns);
        same("alike(" + turns + ")", shop.alike(turns), due);
        if (due > 0 && due < turns) note("alike stopped early");
    }

    static void set(int what, int value) {
        same("set(" + what + ", " + value + ")", shop.set(what, value), model.set(what, value));
    }

    static void undo() {
        same("undo()", shop.undo(), model.undo());
    }

    static void type(int c) {
        same("type(" + c + ")", shop.type(c), model.type(c));
    }

    static void fault(int what) {
        int due = model.fault(what);
        same("fault(" + what + ")", shop.fault(what), due);
        if (due >= 0 || due == NOT_POSSIBLE || what == 2 && due == INVALID) {
            note("fault " + what + (what == 0 ? "" : " of " + due));
        }
    }

    static void advice(int what) {
        int due = model.advice(what);
        same("advice(" + what + ")", shop.advice(what), due);
        if (what == 0 && due >= 0) note("advised " + due);
    }

    static void outcome(int what) {
        int due = model.outcome(what);
        same("outcome(" + what + ")", shop.outcome(what), due);
        if (what == 3) note("outcome over " + due);
        if (what == 0) note("outcome wins " + due);
    }

    static void look() {
        switch (below(9)) {
            case 0: case 1: {
                int p = around(0, 3), w = around(0, 3), i = around(0, 12);
                same("card(" + p + ", " + w + ", " + i + ")", shop.card(p, w, i), model.card(p, w, i));
                break;
            }
            case 2: {
                int p = around(0, 3), w = around(0, 4), k = around(0, 10);
                same("many(" + p + ", " + w + ", " + k + ")", shop.many(p, w, k), model.many(p, w, k));
                break;
            }
            case 3: {
                int p = around(0, 3);
                same("points(" + p + ")", shop.points(p), model.points(p));
                same("wealth(" + p + ")", shop.wealth(p), model.wealth(p));
                break;
            }
            case 4: {
                int k = around(0, 9), w = around(0, 4);
                same("kindOf(" + k + ", " + w + ")", shop.kindOf(k, w), model.kindOf(k, w));
                break;
            }
            case 5: {
                int w = around(0, 6);
                same("turn(" + w + ")", shop.turn(w), model.turn(w));
                break;
            }
            case 6:
                same("purse()", shop.purse(), model.purse());
                break;
            case 7: {
                int w = below(6) == 0 ? 20 : around(0, 8);
                same("count(" + w + ")", shop.count(w), model.count(w));
                break;
            }
            default:
                if (below(3) == 0) {
                    outcome(around(0, 4));
                    advice(around(0, 1));
                }
                fault(around(0, 2));
        }
    }

    static void typeOrders() {
        if (below(3) > 0) same("clearText()", shop.clearText(), model.clearText());
        String letters = "pbxeg;0123456789pbe;;e; f";
        int orders = below(10) == 0 ? 30 : below(8);
        for (int i = 0; i < orders; i++) {
            String order;
            int r = below(12);
            if (r < 4) order = "p" + (below(4) == 0 ? "0" : "") + below(5) + ";";
            else if (r < 6) order = "b" + (below(4) == 0 ? "0" : "") + below(below(6) == 0 ? 30 : 10) + ";";
            else if (r < 9) order = "e;";
            else if (r == 9) order = "x" + below(5) + ";";
            else if (r == 10) order = "g" + (below(4) == 0 ? below(100) : 2 + below(3)) + ";";
            else order = "" + letters.charAt(below(letters.length())) + letters.charAt(below(letters.length()));
            for (char c : order.toCharArray()) type(c);
        }
        if (below(5) == 0) type(around(32, 126));
        if (below(4) > 0) fault(below(3));
        if (below(4) > 0) same("perform()", shop.perform(), model.perform());
    }

    /** A move that is likely to be possible, so that games go far. */
    static void likelyMove() {
        Seat seat = model.now.seat();
        int action = model.now.actions > 0 ? model.now.firstOf(true) : -1;
        int free = model.now.firstOf(false);
        if (model.now.scraps > 0 && !seat.hand.isEmpty() && below(3) > 0) {
            scrap(below(seat.hand.size()));
        } else if (action >= 0) {
            play(action);
        } else if (free >= 0 && (greedy || below(6) > 0)) {
            play(free);
        } else if (greedy && model.now.dearest() >= 0) {
            if (below(8) == 0) advice(below(2));
            buy(model.now.dearest());
        } else if (!greedy && model.buyable() != 0 && below(4) > 0) {
            int k = below(10);
            for (int i = 0; i < 10 && model.now.why(k) != 0; i++) k = (k + 7) % 10;
            buy(k);
        } else {
            end();
        }
    }

    static void step(int likely) {
        if (below(100) < likely) {
            likelyMove();
            return;
        }
        int r = below(100);
        if (r < 50) look();
        else if (r < 62) play(around(0, 5));
        else if (r < 70) buy(around(0, 9));
        else if (r < 74) scrap(around(0, 5));
        else if (r < 80) end();
        else if (r < 83) alike(around(1, below(3) == 0 ? 20 : 3));
        else if (r < 86) set(around(0, 0), around(0, 9));
        else if (r < 89) undo();
        else if (r < 90) { if (below(10) == 0) begin(); }
        else if (r < 95) typeOrders();
        else look();
    }

    /** Everything that can be asked for, as far as calls are left for it. */
    static void lookAtAll() {
        for (int w = 0; w < 9; w++) same("count(" + w + ")", shop.count(w), model.count(w));
        for (int w = 0; w < 8; w++) same("turn(" + w + ")", shop.turn(w), model.turn(w));
        for (int p = 0; p < 5; p++) {
            same("points(" + p + ")", shop.points(p), model.points(p));
            same("wealth(" + p + ")", shop.wealth(p), model.wealth(p));
            for (int w = 0; w < 4; w++) {
                for (int i = 0; calls < 500; i++) {
                    int due = model.card(p, w, i);
                    same("card(" + p + ", " + w + ", " + i + ")", shop.card(p, w, i), due);
                    if (due < 0) break;
                }
            }
        }
    }

    static void walk(int number) {
        walk = number;
        seed = number * 7919L + 17;
        calls = 0;
        shop = new TurningShop();
        model = new Model();
        greedy = number % 7 < 3;
        int likely = new int[] {20, 60, 85, 95}[number % 4];
        if (number % 3 > 0) {
            int players = 2 + below(3);
            Table before = model.now.copy();
            change("begin(" + players + ")", shop.begin(players), model.now.begin(players), before);
        }
        if (number % 5 > 0) set(0, below(10));
        while (calls < 360) step(likely);
        lookAtAll();
    }

    static void mustHaveSeen(String... all) {
        for (String s : all) {
            if (!seen.containsKey(s)) {
                wrong++;
                System.out.println("no walk met: " + s);
            }
        }
    }

    /** So that no change of the walks leaves a case untried. */
    static void mustHaveMetAll() {
        for (int k = 0; k < 10; k++) mustHaveSeen("bought " + k, "advised " + k);
        for (int k : new int[] {0, 1, 2, 6, 7, 8, 9}) mustHaveSeen("played " + k);
        for (int r = 0; r <= 5; r++) mustHaveSeen("why " + r);
        for (String name : "begin play buy scrap alike set card many points kindOf turn outcome advice wealth count type fault".split(" ")) {
            mustHaveSeen(name + " done", name + " invalid");
        }
        for (String name : "play buy scrap end alike undo perform".split(" ")) {
            mustHaveSeen(name + " done", name + " not possible");
        }
        mustHaveSeen("card not found", "advice not found", "fault not found", "type limit", "advised 10", "scrapped",
            "all cursed", "some cursed", "none cursed", "over by manors", "over by three piles", "alike stopped early",
            "outcome over 0", "outcome over 1", "outcome wins 0", "outcome wins 1", "outcome wins 2", "outcome wins 3",
            "fault 1 of 1", "fault 1 of 2", "fault 2 of 0", "fault 2 of 1", "fault 2 of 2", "fault 2 of 3",
            "fault 2 of -1000001", "fault 2 of -1000002");
    }

    public static void main(String[] args) {
        int walks = args.length > 0 ? Integer.parseInt(args[0]) : ALL_WALKS;
        for (int i = 0; i < walks; i++) walk(i);
        if (walks >= ALL_WALKS) mustHaveMetAll();
        if (args.length > 1) System.out.println(seen);
        System.out.println(wrong == 0 ? walks + " walks agree with the model" : wrong + " answers or walks are wrong");
        if (wrong != 0) System.exit(1);
    }
}
