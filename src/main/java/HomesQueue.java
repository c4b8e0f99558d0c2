import java.util.NoSuchElementException;

/**
 * A queue for council homes. The document (DOC.md) tells what each call promises; words in capitals
 * in the comments are its terms. All rows are made in the constructors: no call makes an object.
 */
public final class HomesQueue {
    public static final int NONE = -1;

    private static final int MOST_HOMES = 10;
    private static final int MOST_HOUSES = 8;
    private static final int MOST_WISHES = 6;
    private static final int MOST_OFFERS = 3;
    private static final int MOST_ACTS = 12;
    private static final int MOST_AHEAD = 30;
    private static final int LAST_WEEK = 999;
    private static final int TAPE_BYTES = 900;
    // print() may write more than a TEXT can have, as wish() adds WISHES: 987 bytes at most.
    private static final int OUT_BYTES = 1024;

    private static final int REFUSE = 0;
    private static final int BAR = 1;
    private static final int LOCAL = 2;
    private static final int QUOTA = 3;
    private static final int AGE = 4;
    private static final int BIDS = 5;
    private static final int RULES = 6;
    private static final int[] RULE_LEAST = {1, 1, 0, 0, 1, 1};
    private static final int[] RULE_MOST = {9, 52, 9, 100, 999, 3};
    private static final int[] RULE_UNTOLD = {3, 4, 0, 0, 999, 2};

    private static final int BAD_NUMBER = 1;
    private static final int NO_SUCH = 2;
    private static final int TOO_MANY = 3;
    private static final int SO_ALREADY = 4;
    private static final int THERE_IS_NONE = 5;
    private static final int MAY_NOT = 7;
    private static final int FAULTY = 9;

    private static final int LOCAL_TURN = 1;
    private static final int QUOTA_TURN = 2;

    // The first eight columns of a LET are as let() numbers them.
    private static final int LET_HOUSE = 0;
    private static final int LET_HOME = 1;
    private static final int LET_WEEK = 2;
    private static final int LET_CHAIN = 3;
    private static final int LET_LOCAL = 4;
    private static final int LET_QUOTA = 5;
    private static final int LET_OFFER = 6;
    private static final int LET_BAND = 7;
    private static final int LET_MOVED = 8;
    private static final int LET_TIED = 9;
    private static final int LET_WARD = 10;
    private static final int LET_WIDTH = 11;

    // The columns of an OFFER are as offer() numbers them.
    private static final int OFFER_HOUSE = 0;
    private static final int OFFER_HOME = 1;
    private static final int OFFER_TAKEN = 2;
    private static final int OFFER_WIDTH = 3;

    private final State now;
    private final State spare;
    private final History history;
    private final Reader reader;
    private final Paper paper;
    private final Matching matching;
    private final Chains chains;
    private final Trades trades;
    private int status;

    public HomesQueue() {
        now = new State();
        spare = new State();
        history = new History();
        reader = new Reader();
        paper = new Paper();
        matching = new Matching();
        chains = new Chains();
        trades = new Trades();
        status = 0;
    }

    public int status() {
        return status;
    }

    public int feed(int a, int b, int c, int d, int e) {
        if (!reader.hasRoom(20)) {
            return NONE;
        }
        reader.append(a);
        reader.append(b);
        reader.append(c);
        reader.append(d);
        reader.append(e);
        return reader.length;
    }

    public int load(int n) {
        if (n < 0 || n > reader.length) {
            return fail(BAD_NUMBER);
        }
        boolean right = reader.readText(spare, n);
        reader.length = 0;
        if (!right) {
            return fail(FAULTY);
        }
        now.copy(spare);
        history.count = 0;
        return answer(now.houseCount);
    }

    public int fault(int what) {
        if (what == 0) {
            return reader.fault;
        }
        return what == 1 ? reader.place : NONE;
    }

    // ---- what is told

    public int many(int what) {
        return switch (what) {
            case 0 -> answer(now.homeCount);
            case 1 -> answer(now.houseCount);
            case 2 -> answer(now.week);
            case 3 -> answer(now.lets.count);
            case 4 -> answer(now.countBids());
            case 5 -> answer(now.countFree());
            case 6 -> answer(now.countWaiting());
            case 7 -> answer(history.count);
            case 8 -> answer(now.refusals);
            case 9 -> answer(now.offers.count);
            default -> fail(BAD_NUMBER);
        };
    }

    public int home(int home, int what) {
        if (what < 0 || what > 7) {
            return fail(BAD_NUMBER);
        }
        Home it = now.homeAt(home);
        if (it == null) {
            return fail(NO_SUCH);
        }
        return switch (what) {
            case 0 -> answer(it.rooms);
            case 1 -> answer(it.ward);
            case 2 -> answerIfAny(it.tenant);
            case 3 -> answerFlag(it.isFree());
            case 4 -> answer(Integer.bitCount(now.biddersFor(it)));
            case 5 -> answer(it.lets);
            case 6 -> answerFlag(it.shut);
            default -> answer(it.idle);
        };
    }

    public int house(int house, int what) {
        if (what < 0 || what > 25 || (what > 11 && what < 20)) {
            return fail(BAD_NUMBER);
        }
        House it = now.houseAt(house);
        if (it == null) {
            return fail(NO_SUCH);
        }
        return switch (what) {
            case 0 -> answer(it.band);
            case 1 -> answer(now.bandNow(it));
            case 2 -> answer(it.need);
            case 3 -> answer(it.tie);
            case 4 -> answer(it.day);
            case 5 -> answerIfAny(it.home);
            case 6 -> answer(it.refusals);
            case 7 -> answer(it.barred);
            case 8 -> answerFlag(it.out);
            case 9 -> answer(it.countBids());
            case 10 -> answer(it.wishCount);
            case 11 -> answer(it.passed);
            default -> answerIfAny(it.wishAt(what - 20));
        };
    }

    public int rule(int what) {
        if (what < 0 || what >= RULES) {
            return fail(BAD_NUMBER);
        }
        return answer(now.ruleAt(what));
    }

    public int why(int house, int home) {
        House who = now.houseAt(house);
        Home where = now.homeAt(home);
        if (who == null || where == null) {
            return fail(NO_SUCH);
        }
        return answer(now.whyNot(who, where));
    }

    public int bids(int house, int home) {
        House who = now.houseAt(house);
        Home where = now.homeAt(home);
        if (who == null || where == null) {
            return fail(NO_SUCH);
        }
        return answerFlag(who.bidsFor(where));
    }

    public int order(int home, int k) {
        if (k < 0) {
            return fail(BAD_NUMBER);
        }
        Home where = now.homeAt(home);
        if (where == null) {
            return fail(NO_SUCH);
        }
        return answerNumber(now.kthOf(now.biddersFor(where), where, k));
    }

    public int ahead(int house, int home) {
        House who = now.houseAt(house);
        Home where = now.homeAt(home);
        if (who == null || where == null) {
            return fail(NO_SUCH);
        }
        if (!who.isAble() || !who.suits(where)) {
            return fail(THERE_IS_NONE);
        }
        return answer(now.countAhead(who, where, now.bandNow(who), now.ableFor(where)));
    }

    public int turn(int home, int what) {
        if (what < 0 || what > 1) {
            return fail(BAD_NUMBER);
        }
        Home where = now.homeAt(home);
        if (where == null) {
            return fail(NO_SUCH);
        }
        int asked = what == 0 ? LOCAL_TURN : QUOTA_TURN;
        return answerFlag((now.turnsAt(where) & asked) != 0);
    }

    // ---- what came

    public int let(int k, int what) {
        if (what < 0 || what > LET_BAND) {
            return fail(BAD_NUMBER);
        }
        if (k < 0 || k >= now.lets.count) {
            return fail(NO_SUCH);
        }
        return answer(now.lets.at(k, what));
    }

    public int offer(int k, int what) {
        if (what < 0 || what > OFFER_TAKEN) {
            return fail(BAD_NUMBER);
        }
        if (k < 0 || k >= now.offers.count) {
            return fail(NO_SUCH);
        }
        return answer(now.offers.at(k, what));
    }

    public int tally(int what) {
        return switch (what) {
            case 0 -> answer(now.greatestChain());
            case 1 -> answer(now.lets.countWith(LET_CHAIN, 1));
            case 2 -> answer(now.lets.countWith(LET_MOVED, 1));
            case 3 -> answer(now.lets.countWith(LET_TIED, 1));
            case 4 -> answer(now.countPassed());
            default -> fail(BAD_NUMBER);
        };
    }

    public int lack(int rooms) {
        if (rooms < 1 || rooms > 4) {
            return fail(BAD_NUMBER);
        }
        return answer(now.lackOf(rooms));
    }

    // ---- what could be

    public int weeks(int n, int what) {
        if (n < 0 || n > MOST_AHEAD || what < 0 || what > 5) {
            return fail(BAD_NUMBER);
        }
        spare.copy(now);
        spare.runAhead(n);
        return switch (what) {
            case 0 -> answer(spare.lets.count - now.lets.count);
            case 1 -> answer(spare.refusals - now.refusals);
            case 2 -> answer(spare.countFree());
            case 3 -> answer(spare.countWaiting());
            case 4 -> answer(spare.greatestChain());
            default -> answer(spare.countPassed() - now.countPassed());
        };
    }

    public int when(int house, int n, boolean ofHome) {
        if (n < 1 || n > MOST_AHEAD) {
            return fail(BAD_NUMBER);
        }
        House who = now.houseAt(house);
        if (who == null) {
            return fail(NO_SUCH);
        }
        if (who.out) {
            return fail(SO_ALREADY);
        }
        spare.copy(now);
        spare.runAhead(n);
        int k = spare.lets.find(LET_HOUSE, house);
        return answerIfAny(spare.lets.at(k, ofHome ? LET_HOME : LET_WEEK));
    }

    public int tip(int house) {
        House who = now.houseAt(house);
        if (who == null) {
            return fail(NO_SUCH);
        }
        return answerIfAny(now.bestTip(who));
    }

    public int would(int house, int home) {
        House who = now.houseAt(house);
        Home where = now.homeAt(home);
        if (who == null || where == null) {
            return fail(NO_SUCH);
        }
        if (!who.isAble() || !where.isFree() || !who.suits(where)) {
            return fail(THERE_IS_NONE);
        }
        spare.copy(now);
        spare.bidAlone(house, where);
        spare.endWeek();
        // As it BIDS for this HOME alone, its only OFFER can be of this HOME.
        int k = spare.offers.find(OFFER_HOUSE, house);
        if (k == NONE) {
            return answer(0);
        }
        return answer(spare.offers.at(k, OFFER_TAKEN) == 1 ? 1 : 2);
    }

    public int top(int home) {
        Home where = now.homeAt(home);
        if (where == null) {
            return fail(NO_SUCH);
        }
        return answerNumber(now.kthOf(now.takersOf(where), where, 0));
    }

    public int lot(int home, int seed) {
        if (seed < 0 || seed > 65536) {
            return fail(BAD_NUMBER);
        }
        Home where = now.homeAt(home);
        if (where == null) {
            return fail(NO_SUCH);
        }
        return answerNumber(now.drawn(where, (75 * seed + 74) % 65537));
    }

    public int fits(int house, int what) {
        if (what < 0 || what > 2) {
            return fail(BAD_NUMBER);
        }
        House who = now.houseAt(house);
        if (who == null) {
            return fail(NO_SUCH);
        }
        return answer(now.homesThatFit(who, what == 1, what == 2));
    }

    public int ward(boolean much) {
        int ward = now.shortestWard();
        if (ward == NONE) {
            return fail(THERE_IS_NONE);
        }
        return answer(much ? now.wantOf(ward) : ward);
    }

    public int envy(int what) {
        return switch (what) {
            case 0 -> answer(now.countEnvy());
            case 1 -> answerNumber(now.firstEnvious());
            case 2 -> answerNumber(now.envyPartner(now.firstEnvious()));
            default -> fail(BAD_NUMBER);
        };
    }

    public int lever(int n, int what) {
        if (n < 1 || n > MOST_AHEAD || what < 0 || what > 2) {
            return fail(BAD_NUMBER);
        }
        int mostLets = NONE;
        int bestRule = NONE;
        int bestNumber = NONE;
        for (int rule = 0; rule < RULES; rule++) {
            for (int step = -1; step <= 1; step += 2) {
                int number = now.ruleAt(rule) + step;
                int lets = canBeTold(rule, number) ? letsAhead(n, rule, number) : NONE;
                if (lets > mostLets) {
                    mostLets = lets;
                    bestRule = rule;
                    bestNumber = number;
                }
            }
        }
        if (what == 0) {
            return answer(mostLets);
        }
        return answer(what == 1 ? bestRule : bestNumber);
    }

    public int queue(int k) {
        if (k < 0) {
            return fail(BAD_NUMBER);
        }
        return answerNumber(now.kthOf(now.waiting(), null, k));
    }

    public int most() {
        matching.look(now);
        return answer(matching.largest(0, 0));
    }

    public int gift(int house) {
        if (now.houseAt(house) == null) {
            return fail(NO_SUCH);
        }
        matching.look(now);
        return answerIfAny(matching.giftOf(house));
    }

    public int trade(int house) {
        House who = now.houseAt(house);
        if (who == null) {
            return fail(NO_SUCH);
        }
        trades.work(now);
        return answerIfAny(trades.gotBy(house));
    }

    public int trades(int what) {
        if (what < 0 || what > 2) {
            return fail(BAD_NUMBER);
        }
        trades.work(now);
        if (what == 0) {
            return answer(trades.moved);
        }
        return answer(what == 1 ? trades.circles : trades.greatest);
    }

    public int longest(int k, boolean ofHome) {
        if (k < NONE) {
            return fail(BAD_NUMBER);
        }
        chains.work(now);
        if (k == NONE) {
            return answer(chains.length);
        }
        return answerIfAny(ofHome ? chains.homeAt(k) : chains.houseAt(k));
    }

    public int gap(int house, int home) {
        House who = now.houseAt(house);
        Home where = now.homeAt(home);
        if (who == null || where == null) {
            return fail(NO_SUCH);
        }
        if (!who.isAble() || !who.suits(where)) {
            return fail(THERE_IS_NONE);
        }
        return answerIfAny(now.bandsToBeFirst(who, where));
    }

    // ---- acts

    public int bid(int house, int home) {
        House who = now.houseAt(house);
        Home where = now.homeAt(home);
        if (who == null || where == null) {
            return fail(NO_SUCH);
        }
        if (now.whyNot(who, where) != 0) {
            return fail(MAY_NOT);
        }
        history.keep(now);
        who.bids |= where.bit;
        return answer(who.countBids());
    }

    public int unbid(int house, int home) {
        House who = now.houseAt(house);
        Home where = now.homeAt(home);
        if (who == null || where == null) {
            return fail(NO_SUCH);
        }
        if (!who.bidsFor(where)) {
            return fail(THERE_IS_NONE);
        }
        history.keep(now);
        who.bids &= ~where.bit;
        return answer(who.countBids());
    }

    public int auto() {
        // Tried on the spare first: an act that adds nothing must not push the oldest one out.
        spare.copy(now);
        int added = spare.bidAsTheyWould();
        if (added == 0) {
            return fail(SO_ALREADY);
        }
        history.keep(now);
        now.copy(spare);
        return answer(added);
    }

    public int week() {
        if (now.week >= LAST_WEEK) {
            return fail(TOO_MANY);
        }
        history.keep(now);
        return answer(now.endWeek());
    }

    public int wish(int house, int home) {
        House who = now.houseAt(house);
        Home where = now.homeAt(home);
        if (who == null || where == null) {
            return fail(NO_SUCH);
        }
        if (who.rankOfWish(home) != NONE) {
            return fail(SO_ALREADY);
        }
        if (who.wishCount >= MOST_WISHES) {
            return fail(TOO_MANY);
        }
        history.keep(now);
        who.addWish(home);
        return answer(who.wishCount);
    }

    public int unwish(int house, int home) {
        House who = now.houseAt(house);
        Home where = now.homeAt(home);
        if (who == null || where == null) {
            return fail(NO_SUCH);
        }
        int place = who.rankOfWish(home);
        if (place == NONE) {
            return fail(THERE_IS_NONE);
        }
        history.keep(now);
        who.dropWish(place);
        return answer(who.wishCount);
    }

    public int leave(int house) {
        House who = now.houseAt(house);
        if (who == null) {
            return fail(NO_SUCH);
        }
        if (who.out) {
            return fail(SO_ALREADY);
        }
        history.keep(now);
        now.vacate(who, 0);
        who.bids = 0;
        who.out = true;
        return answer(now.countWaiting());
    }

    public int shut(int home, boolean yes) {
        Home where = now.homeAt(home);
        if (where == null) {
            return fail(NO_SUCH);
        }
        if (where.shut == yes) {
            return fail(SO_ALREADY);
        }
        history.keep(now);
        where.shut = yes;
        if (yes) {
            now.dropBidsFor(where);
        }
        return answer(now.countFree());
    }

    public int need(int house, int need) {
        if (need < 1 || need > 4) {
            return fail(BAD_NUMBER);
        }
        House who = now.houseAt(house);
        if (who == null) {
            return fail(NO_SUCH);
        }
        int before = who.need;
        if (before == need) {
            return fail(SO_ALREADY);
        }
        history.keep(now);
        who.need = need;
        who.bids &= now.homesThatFit(who, false, false);
        return answer(before);
    }

    public int rules(int what, int n) {
        if (!canBeTold(what, n)) {
            return fail(BAD_NUMBER);
        }
        int before = now.ruleAt(what);
        if (before == n) {
            return fail(SO_ALREADY);
        }
        history.keep(now);
        now.setRule(what, n);
        return answer(before);
    }

    public int undo() {
        if (history.count == 0) {
            return fail(THERE_IS_NONE);
        }
        history.goBack(now);
        return answer(history.count);
    }

    public int print() {
        paper.write(now);
        return answer(paper.length);
    }

    public int out(int i) throws NoSuchElementException {
        if (i < 0 || i >= paper.length) {
            throw new NoSuchElementException("OUT has no such byte");
        }
        return paper.byteAt(i);
    }

    private int fail(int kind) {
        status = kind;
        return NONE;
    }

    private int answer(int number) {
        status = 0;
        return number;
    }

    private int answerFlag(boolean yes) {
        return answer(yes ? 1 : 0);
    }

    private int answerIfAny(int number) {
        return number == NONE ? fail(THERE_IS_NONE) : answer(number);
    }

    private int answerNumber(House house) {
        return house == null ? fail(THERE_IS_NONE) : answer(house.number);
    }

    private int letsAhead(int n, int rule, int number) {
        spare.copy(now);
        spare.setRule(rule, number);
        spare.runAhead(n);
        return spare.lets.count - now.lets.count;
    }

    private static boolean canBeTold(int rule, int number) {
        if (rule < 0 || rule >= RULES) {
            return false;
        }
        return number >= RULE_LEAST[rule] && number <= RULE_MOST[rule];
    }

    /** The words that are no NAMES: four of the LINES, then the KINDS as rule() numbers them. */
    private static String keyword(int i) {
        return switch (i) {
            case 0 -> "home";
            case 1 -> "house";
            case 2 -> "rule";
            case 3 -> "in";
            case 4 -> "refuse";
            case 5 -> "bar";
            case 6 -> "local";
            case 7 -> "quota";
            case 8 -> "age";
            case 9 -> "bids";
            default -> "";
        };
    }

    /** Rows of numbers of one width; what lies outside reads as NONE. */
    private static final class Table {
        final int width;
        final int[] cells;
        int count;

        Table(int rows, int width) {
            this.width = width;
            cells = new int[rows * width];
            count = 0;
        }

        int at(int row, int column) {
            if (row < 0 || row >= count || column < 0 || column >= width) {
                return NONE;
            }
            return cells[row * width + column];
        }

        int addRow() {
            if ((count + 1) * width > cells.length) {
                return NONE;
            }
            count++;
            return count - 1;
        }

        void set(int row, int column, int number) {
            if (row >= 0 && row < count && column >= 0 && column < width) {
                cells[row * width + column] = number;
            }
        }

        int countWith(int column, int number) {
            int found = 0;
            for (int row = 0; row < count; row++) {
                if (at(row, column) == number) {
                    found++;
                }
            }
            return found;
        }

        /** The first row with a number in a column, or NONE. */
        int find(int column, int number) {
            for (int row = 0; row < count; row++) {
                if (at(row, column) == number) {
                    return row;
                }
            }
            return NONE;
        }

        void copy(Table from) {
            int length = Math.min(cells.length, from.count * from.width);
            System.arraycopy(from.cells, 0, cells, 0, length);
            count = from.count;
        }
    }

    private static final class Home {
        final int number;
        final int bit;
        long name;
        int rooms;
        int ward;
        int tenant;
        boolean left;
        boolean shut;
        int lets;
        int idle;
        // CHAIN of the LET by which it came free; 0 if it came free otherwise.
        int chain;

        Home(int number) {
            this.number = number;
            bit = 1 << number;
            tenant = NONE;
        }

        boolean isFree() {
            return tenant == NONE && !left && !shut;
        }

        void begin(long newName) {
            name = newName;
            rooms = 0;
            ward = 0;
            tenant = NONE;
            left = false;
            shut = false;
            lets = 0;
            idle = 0;
            chain = 0;
        }

        void copy(Home from) {
            name = from.name;
            rooms = from.rooms;
            ward = from.ward;
            tenant = from.tenant;
            left = from.left;
            shut = from.shut;
            lets = from.lets;
            idle = from.idle;
            chain = from.chain;
        }
    }

    private static final class House {
        final int number;
        final int bit;
        final int[] wishes;
        int wishCount;
        long name;
        int band;
        int need;
        int tie;
        int day;
        int home;
        int refusals;
        int barred;
        boolean out;
        int bids;
        int passed;

        House(int number) {
            this.number = number;
            bit = 1 << number;
            wishes = new int[MOST_WISHES];
            home = NONE;
        }

        boolean isAble() {
            return !out && barred == 0;
        }

        boolean suits(Home place) {
            return place.rooms == need || place.rooms == need + 1;
        }

        int countBids() {
            return Integer.bitCount(bids);
        }

        boolean bidsFor(Home place) {
            return (bids & place.bit) != 0;
        }

        int wishAt(int k) {
            return k < 0 || k >= wishCount || k >= MOST_WISHES ? NONE : wishes[k];
        }

        /** 0 for the dearest; NONE if it is no WISH. */
        int rankOfWish(int place) {
            for (int k = 0; k < wishCount && k < MOST_WISHES; k++) {
                if (wishes[k] == place) {
                    return k;
                }
            }
            return NONE;
        }

        void addWish(int place) {
            if (wishCount < MOST_WISHES) {
                wishes[wishCount] = place;
                wishCount++;
            }
        }

        void dropWish(int k) {
            if (k < 0 || k >= wishCount) {
                return;
            }
            for (int i = k; i + 1 < wishCount && i + 1 < MOST_WISHES; i++) {
                wishes[i] = wishes[i + 1];
            }
            wishCount--;
        }

        boolean wouldTake(Home place) {
            return wishCount == 0 || rankOfWish(place.number) != NONE;
        }

        boolean couldBeGiven(Home place) {
            return isAble() && suits(place) && wouldTake(place);
        }

        /** Whether it lives in a HOME and would rather live in another one. */
        boolean wouldRather(Home place) {
            int there = rankOfWish(place.number);
            if (home == NONE || there == NONE || !suits(place)) {
                return false;
            }
            int here = rankOfWish(home);
            return here == NONE || here > there;
        }

        void begin(long newName) {
            name = newName;
            wishCount = 0;
            band = 0;
            need = 0;
            tie = 0;
            day = 0;
            home = NONE;
            refusals = 0;
            barred = 0;
            out = false;
            bids = 0;
            passed = 0;
        }

        void copy(House from) {
            System.arraycopy(from.wishes, 0, wishes, 0, MOST_WISHES);
            wishCount = from.wishCount;
            name = from.name;
            band = from.band;
            need = from.need;
            tie = from.tie;
            day = from.day;
            home = from.home;
            refusals = from.refusals;
            barred = from.barred;
            out = from.out;
            bids = from.bids;
            passed = from.passed;
        }
    }

    /** All that a load() tells and that acts change. Sets of HOUSES and of HOMES are bits of an int. */
    private static final class State {
        final Home[] homes;
        final House[] houses;
        final int[] rules;
        final Table lets;
        final Table offers;
        int homeCount;
        int houseCount;
        int week;
        int refusals;

        State() {
            homes = new Home[MOST_HOMES];
            for (int i = 0; i < MOST_HOMES; i++) {
                homes[i] = new Home(i);
            }
            houses = new House[MOST_HOUSES];
            for (int i = 0; i < MOST_HOUSES; i++) {
                houses[i] = new House(i);
            }
            rules = new int[RULES];
            lets = new Table(MOST_HOUSES, LET_WIDTH);
            offers = new Table(MOST_HOMES * MOST_OFFERS, OFFER_WIDTH);
            clear();
        }

        void clear() {
            System.arraycopy(RULE_UNTOLD, 0, rules, 0, RULES);
            lets.count = 0;
            offers.count = 0;
            homeCount = 0;
            houseCount = 0;
            week = 0;
            refusals = 0;
        }

        void copy(State from) {
            homeCount = from.homeCount;
            for (int i = 0; i < homeCount; i++) {
                homes[i].copy(from.homes[i]);
            }
            houseCount = from.houseCount;
            for (int i = 0; i < houseCount; i++) {
                houses[i].copy(from.houses[i]);
            }
            System.arraycopy(from.rules, 0, rules, 0, RULES);
            lets.copy(from.lets);
            offers.copy(from.offers);
            week = from.week;
            refusals = from.refusals;
        }

        Home homeAt(int i) {
            return i < 0 || i >= homeCount ? null : homes[i];
        }

        House houseAt(int i) {
            return i < 0 || i >= houseCount ? null : houses[i];
        }

        /** A new HOME, or null if there are too many. */
        Home addHome(long name) {
            if (homeCount >= MOST_HOMES) {
                return null;
            }
            Home added = homes[homeCount];
            added.begin(name);
            homeCount++;
            return added;
        }

        /** A new HOUSE, or null if there are too many. */
        House addHouse(long name) {
            if (houseCount >= MOST_HOUSES) {
                return null;
            }
            House added = houses[houseCount];
            added.begin(name);
            houseCount++;
            return added;
        }

        Home homeNamed(long name) {
            for (int i = 0; i < homeCount; i++) {
                if (homes[i].name == name) {
                    return homes[i];
                }
            }
            return null;
        }

        boolean isTaken(long name) {
            for (int i = 0; i < houseCount; i++) {
                if (houses[i].name == name) {
                    return true;
                }
            }
            return homeNamed(name) != null;
        }

        int ruleAt(int what) {
            return what < 0 || what >= RULES ? NONE : rules[what];
        }

        void setRule(int what, int number) {
            if (what >= 0 && what < RULES) {
                rules[what] = number;
            }
        }

        // -- counts

        int countFree() {
            int free = 0;
            for (int i = 0; i < homeCount; i++) {
                if (homes[i].isFree()) {
                    free++;
                }
            }
            return free;
        }

        /** The HOUSES that are not OUT. */
        int waiting() {
            int set = 0;
            for (int i = 0; i < houseCount; i++) {
                if (!houses[i].out) {
                    set |= houses[i].bit;
                }
            }
            return set;
        }

        int countWaiting() {
            return Integer.bitCount(waiting());
        }

        int countBids() {
            int all = 0;
            for (int i = 0; i < houseCount; i++) {
                all += houses[i].countBids();
            }
            return all;
        }

        int countPassed() {
            int all = 0;
            for (int i = 0; i < houseCount; i++) {
                all += houses[i].passed;
            }
            return all;
        }

        int greatestChain() {
            int greatest = 0;
            for (int k = 0; k < lets.count; k++) {
                greatest = Math.max(greatest, lets.at(k, LET_CHAIN));
            }
            return greatest;
        }

        int lackOf(int rooms) {
            int lack = 0;
            for (int i = 0; i < houseCount; i++) {
                if (!houses[i].out && houses[i].need == rooms) {
                    lack++;
                }
            }
            for (int i = 0; i < homeCount; i++) {
                if (homes[i].isFree() && homes[i].rooms == rooms) {
                    lack--;
                }
            }
            return lack;
        }

        /** HOUSES not OUT with a TIE to a WARD, less its FREE HOMES. */
        int wantOf(int ward) {
            int want = 0;
            for (int i = 0; i < houseCount; i++) {
                if (!houses[i].out && houses[i].tie == ward) {
                    want++;
                }
            }
            for (int i = 0; i < homeCount; i++) {
                if (homes[i].isFree() && homes[i].ward == ward) {
                    want--;
                }
            }
            return want;
        }

        int shortestWard() {
            int best = NONE;
            for (int i = 0; i < homeCount; i++) {
                int ward = homes[i].ward;
                int more = best == NONE ? 1 : wantOf(ward) - wantOf(best);
                if (more > 0 || (more == 0 && ward < best)) {
                    best = ward;
                }
            }
            return best;
        }

        int homesThatFit(House house, boolean freeOnly, boolean takenOnly) {
            int set = 0;
            for (int i = 0; i < homeCount; i++) {
                Home home = homes[i];
                boolean counts = (!freeOnly || home.isFree()) && (!takenOnly || house.wouldTake(home));
                if (counts && house.suits(home)) {
                    set |= home.bit;
                }
            }
            return set;
        }

        // -- ORDER

        int waited(House house) {
            return 1000 + 7 * week - house.day;
        }

        int bandNow(House house) {
            int age = rules[AGE];
            int aged = age < 1 ? 0 : waited(house) / age;
            return Math.max(1, house.band - aged);
        }

        /** Who BIDS for a HOME and is not OUT, not BARRED by now. */
        int biddersFor(Home home) {
            int set = 0;
            for (int i = 0; i < houseCount; i++) {
                if (houses[i].bidsFor(home) && houses[i].isAble()) {
                    set |= houses[i].bit;
                }
            }
            return set;
        }

        int ableFor(Home home) {
            int set = 0;
            for (int i = 0; i < houseCount; i++) {
                if (houses[i].isAble() && houses[i].suits(home)) {
                    set |= houses[i].bit;
                }
            }
            return set;
        }

        int takersOf(Home home) {
            int set = 0;
            for (int i = 0; i < houseCount; i++) {
                if (houses[i].couldBeGiven(home)) {
                    set |= houses[i].bit;
                }
            }
            return set;
        }

        /** LOCAL_TURN and QUOTA_TURN, as bits. */
        int turnsAt(Home home) {
            int turns = 0;
            int local = rules[LOCAL];
            if (local > 0 && (lets.countWith(LET_WARD, home.ward) + 1) % local == 0) {
                turns |= LOCAL_TURN;
            }
            if (100 * lets.countWith(LET_MOVED, 1) < rules[QUOTA] * lets.count) {
                turns |= QUOTA_TURN;
            }
            return turns;
        }

        /** ORDER as one number, the first grounds as its highest digits: the lesser goes ahead. */
        int rank(House house, Home home, int turns, int band) {
            boolean local = home != null && (turns & LOCAL_TURN) != 0;
            int untied = local && house.tie != home.ward ? 1 : 0;
            int unhoused = (turns & QUOTA_TURN) != 0 && house.home == NONE ? 1 : 0;
            return (((untied * 2 + unhoused) * 8 + band) * 1000 + house.day) * 8 + house.number;
        }

        /** The first of a set by ORDER for a HOME at its turns (null: for none), or null. */
        House firstOf(int set, Home home, int turns) {
            House first = null;
            int least = 0;
            for (int i = 0; i < houseCount; i++) {
                House house = houses[i];
                if ((set & house.bit) == 0) {
                    continue;
                }
                int rank = rank(house, home, turns, bandNow(house));
                if (first == null || rank < least) {
                    first = house;
                    least = rank;
                }
            }
            return first;
        }

        House kthOf(int set, Home home, int k) {
            int left = set;
            int turns = home == null ? 0 : turnsAt(home);
            for (int i = 0; i < houseCount; i++) {
                House first = firstOf(left, home, turns);
                if (first == null || i == k) {
                    return first;
                }
                left &= ~first.bit;
            }
            return null;
        }

        /** How many others of a set go ahead of a HOUSE, were its BAND NOW another one. */
        int countAhead(House house, Home home, int band, int set) {
            int turns = turnsAt(home);
            int own = rank(house, home, turns, band);
            int ahead = 0;
            for (int i = 0; i < houseCount; i++) {
                House other = houses[i];
                boolean counts = other.number != house.number && (set & other.bit) != 0;
                if (counts && rank(other, home, turns, bandNow(other)) < own) {
                    ahead++;
                }
            }
            return ahead;
        }

        int bandsToBeFirst(House house, Home home) {
            int set = biddersFor(home);
            int band = bandNow(house);
            for (int bands = 0; bands < band && bands < 4; bands++) {
                if (countAhead(house, home, band - bands, set) == 0) {
                    return bands;
                }
            }
            return NONE;
        }

        // -- BIDS

        int whyNot(House house, Home home) {
            if (house.out) {
                return 1;
            }
            if (house.barred > 0) {
                return 2;
            }
            if (!home.isFree()) {
                return 3;
            }
            if (!house.suits(home)) {
                return 4;
            }
            if (house.bidsFor(home)) {
                return 5;
            }
            return house.countBids() >= rules[BIDS] ? 6 : 0;
        }

        int countLiked(House house) {
            return house.wishCount == 0 ? homeCount : house.wishCount;
        }

        /** The k-th HOME that a HOUSE would look at: by its WISHES, without any by numbers. */
        Home liked(House house, int k) {
            return homeAt(house.wishCount == 0 ? k : house.wishAt(k));
        }

        int bidAsTheyWould() {
            int added = 0;
            for (int i = 0; i < houseCount; i++) {
                added += bidAsItWould(houses[i]);
            }
            return added;
        }

        int bidAsItWould(House house) {
            int added = 0;
            int count = house.isAble() ? countLiked(house) : 0;
            for (int k = 0; k < count && house.countBids() < rules[BIDS]; k++) {
                Home home = liked(house, k);
                if (home != null && whyNot(house, home) == 0) {
                    house.bids |= home.bit;
                    added++;
                }
            }
            return added;
        }

        void bidAlone(int number, Home home) {
            House house = houseAt(number);
            if (house != null) {
                house.bids = home.bit;
            }
        }

        void dropBidsFor(Home home) {
            for (int i = 0; i < houseCount; i++) {
                houses[i].bids &= ~home.bit;
            }
        }

        int bestTip(House house) {
            int best = NONE;
            int fewest = MOST_HOUSES;
            int count = countLiked(house);
            for (int k = 0; k < count; k++) {
                Home home = liked(house, k);
                if (home == null || (!house.bidsFor(home) && whyNot(house, home) != 0)) {
                    continue;
                }
                int ahead = countAhead(house, home, bandNow(house), biddersFor(home));
                if (ahead < fewest) {
                    best = home.number;
                    fewest = ahead;
                }
            }
            return best;
        }

        // -- the WEEK

        /** AHEAD. */
        void runAhead(int n) {
            for (int i = 0; i < n && week < LAST_WEEK; i++) {
                bidAsTheyWould();
                endWeek();
            }
        }

        /** How many LETS came. */
        int endWeek() {
            int before = lets.count;
            offers.count = 0;
            for (int i = 0; i < homeCount; i++) {
                if (homes[i].isFree() && !offerRound(homes[i])) {
                    homes[i].idle++;
                }
            }
            beginNextWeek();
            return lets.count - before;
        }

        /** Whether one TOOK it. */
        boolean offerRound(Home home) {
            int set = biddersFor(home);
            if (set == 0) {
                return false;
            }
            int turns = turnsAt(home);
            for (int nth = 1; nth <= MOST_OFFERS; nth++) {
                House house = firstOf(set, home, turns);
                if (house == null) {
                    return false;
                }
                set &= ~house.bit;
                boolean taken = house.wouldTake(home);
                noteOffer(house, home, taken);
                if (taken) {
                    takeHome(house, home, turns, nth);
                    return true;
                }
                refuseHome(house);
            }
            return false;
        }

        void noteOffer(House house, Home home, boolean taken) {
            int row = offers.addRow();
            offers.set(row, OFFER_HOUSE, house.number);
            offers.set(row, OFFER_HOME, home.number);
            offers.set(row, OFFER_TAKEN, taken ? 1 : 0);
        }

        void refuseHome(House house) {
            refusals++;
            house.refusals++;
            // A REFUSE made less by rules() may lie below what it has already.
            if (house.refusals >= rules[REFUSE]) {
                house.refusals = 0;
                // One more, for what is left of this WEEK: its end takes it off again.
                house.barred = rules[BAR] + 1;
            }
        }

        void takeHome(House house, Home home, int turns, int nth) {
            int band = bandNow(house);
            noteLet(house, home, turns, nth, band);
            for (int i = 0; i < houseCount; i++) {
                House other = houses[i];
                if (other.isAble() && other.bidsFor(home) && bandNow(other) < band) {
                    other.passed++;
                }
            }
            vacate(house, home.chain + 1);
            house.home = home.number;
            house.out = true;
            home.tenant = house.number;
            home.lets++;
        }

        void noteLet(House house, Home home, int turns, int nth, int band) {
            int row = lets.addRow();
            lets.set(row, LET_HOUSE, house.number);
            lets.set(row, LET_HOME, home.number);
            lets.set(row, LET_WEEK, week);
            lets.set(row, LET_CHAIN, home.chain + 1);
            lets.set(row, LET_LOCAL, (turns & LOCAL_TURN) != 0 ? 1 : 0);
            lets.set(row, LET_QUOTA, (turns & QUOTA_TURN) != 0 ? 1 : 0);
            lets.set(row, LET_OFFER, nth);
            lets.set(row, LET_BAND, band);
            lets.set(row, LET_MOVED, house.home != NONE ? 1 : 0);
            lets.set(row, LET_TIED, house.tie == home.ward ? 1 : 0);
            lets.set(row, LET_WARD, home.ward);
        }

        /** A HOUSE goes out of where it lives, by a LET with that CHAIN (0: otherwise). */
        void vacate(House house, int chain) {
            Home old = homeAt(house.home);
            if (old != null) {
                old.tenant = NONE;
                old.left = true;
                old.chain = chain;
            }
            house.home = NONE;
        }

        void beginNextWeek() {
            for (int i = 0; i < homeCount; i++) {
                homes[i].left = false;
            }
            for (int i = 0; i < houseCount; i++) {
                houses[i].bids = 0;
                houses[i].barred = Math.max(0, houses[i].barred - 1);
            }
            week++;
        }

        // -- LOT and ENVY

        /** The HOUSE on which x falls by LOT, or null. */
        House drawn(Home home, int x) {
            int set = takersOf(home);
            int all = 0;
            for (int i = 0; i < houseCount; i++) {
                all += (set & houses[i].bit) != 0 ? lotsOf(houses[i]) : 0;
            }
            if (all <= 0 || x < 0) {
                return null;
            }
            int left = x % all;
            for (int i = 0; i < houseCount; i++) {
                if ((set & houses[i].bit) != 0) {
                    left -= lotsOf(houses[i]);
                    if (left < 0) {
                        return houses[i];
                    }
                }
            }
            return null;
        }

        int lotsOf(House house) {
            return Math.max(1, waited(house) / 7);
        }

        boolean envyEachOther(House one, House other) {
            Home ofOne = homeAt(one.home);
            Home ofOther = homeAt(other.home);
            if (ofOne == null || ofOther == null) {
                return false;
            }
            return one.wouldRather(ofOther) && other.wouldRather(ofOne);
        }

        int countEnvy() {
            int couples = 0;
            for (int i = 0; i < houseCount; i++) {
                for (int j = i + 1; j < houseCount; j++) {
                    if (envyEachOther(houses[i], houses[j])) {
                        couples++;
                    }
                }
            }
            return couples;
        }

        /** The lesser one of the first couple, or null. */
        House firstEnvious() {
            for (int i = 0; i < houseCount; i++) {
                if (envyPartner(houses[i]) != null) {
                    return houses[i];
                }
            }
            return null;
        }

        /** The first HOUSE with a greater number that makes a couple with one, or null. */
        House envyPartner(House one) {
            if (one == null) {
                return null;
            }
            for (int j = 0; j < houseCount; j++) {
                if (j > one.number && envyEachOther(one, houses[j])) {
                    return houses[j];
                }
            }
            return null;
        }
    }

    /** The states ahead of the latest ACTS, in a ring: a thirteenth one takes the oldest one's place. */
    private static final class History {
        final State[] kept;
        int next;
        int count;

        History() {
            kept = new State[MOST_ACTS];
            for (int i = 0; i < MOST_ACTS; i++) {
                kept[i] = new State();
            }
            next = 0;
            count = 0;
        }

        void keep(State state) {
            kept[next].copy(state);
            next = next + 1 < MOST_ACTS ? next + 1 : 0;
            count = Math.min(count + 1, MOST_ACTS);
        }

        void goBack(State state) {
            if (count > 0) {
                next = next > 0 ? next - 1 : MOST_ACTS - 1;
                count--;
                state.copy(kept[next]);
            }
        }
    }

    /** The tape, and how a TEXT on it is read into a State: up to its first FAULT. */
    private static final class Reader {
        private static final int END = 0;
        private static final int WORD = 1;
        private static final int NUMBER = 2;
        private static final int SIGN = 3;
        private static final int NO_TOKEN = 4;

        private static final int WORD_HOME = 0;
        private static final int WORD_HOUSE = 1;
        private static final int WORD_RULE = 2;
        private static final int WORD_IN = 3;
        private static final int FIRST_KIND = 4;
        private static final int KEYWORDS = 10;

        final int[] tape;
        final long[] keywords;
        int length;
        int fault;
        int place;
        int end;
        int at;
        int token;
        int start;
        // Of a WORD its letters, of a NUMBER what it says.
        long word;
        int number;
        // Of a WORD which keyword it is, or NONE.
        int keyword;

        Reader() {
            tape = new int[TAPE_BYTES];
            keywords = new long[KEYWORDS];
            for (int i = 0; i < KEYWORDS; i++) {
                String letters = keyword(i);
                long packed = 0;
                for (int k = 0; k < letters.length(); k++) {
                    packed = packLetter(packed, letters.charAt(k));
                }
                keywords[i] = packed;
            }
            fault = NONE;
            place = NONE;
        }

        /** Eight letters of five bits each go into a long; none of them is 0. */
        static long packLetter(long packed, int letter) {
            return packed * 32 + (letter - 'a' + 1);
        }

        boolean hasRoom(int bytes) {
            return length + bytes <= TAPE_BYTES;
        }

        void append(int four) {
            for (int shift = 24; shift >= 0 && length < TAPE_BYTES; shift -= 8) {
                tape[length] = (four >>> shift) & 255;
                length++;
            }
        }

        /** False, with fault and place, if the TEXT has a FAULT: the State is of no use then. */
        boolean readText(State into, int n) {
            into.clear();
            end = n;
            at = 0;
            fault = 0;
            place = NONE;
            next();
            for (int line = 0; line <= TAPE_BYTES && token != END; line++) {
                if (!readLine(into) || !readSign()) {
                    return false;
                }
            }
            return true;
        }

        /** A LINE up to its SIGN. */
        private boolean readLine(State into) {
            if (token != WORD) {
                return misplaced();
            }
            return switch (keyword) {
                case WORD_HOME -> readHome(into);
                case WORD_HOUSE -> readHouse(into);
                case WORD_RULE -> readRule(into);
                default -> misplaced();
            };
        }

        private boolean readHome(State into) {
            if (into.homeCount >= MOST_HOMES) {
                return wrong(5);
            }
            next();
            if (!isNewName(into)) {
                return false;
            }
            Home home = into.addHome(word);
            if (home == null) {
                return wrong(5);
            }
            next();
            if (!isNumber(1, 4)) {
                return false;
            }
            home.rooms = number;
            next();
            if (!isNumber(0, 7)) {
                return false;
            }
            home.ward = number;
            next();
            return true;
        }

        private boolean readHouse(State into) {
            if (into.houseCount >= MOST_HOUSES) {
                return wrong(5);
            }
            next();
            if (!isNewName(into)) {
                return false;
            }
            House house = into.addHouse(word);
            if (house == null) {
                return wrong(5);
            }
            next();
            return readNumbers(house) && readWhere(into, house) && readWishes(into, house);
        }

        private boolean readNumbers(House house) {
            if (!isNumber(1, 4)) {
                return false;
            }
            house.band = number;
            next();
            if (!isNumber(1, 4)) {
                return false;
            }
            house.need = number;
            next();
            if (!isNumber(0, 7)) {
                return false;
            }
            house.tie = number;
            next();
            if (!isNumber(0, 999)) {
                return false;
            }
            house.day = number;
            next();
            return true;
        }

        private boolean readWhere(State into, House house) {
            if (token != WORD || keyword != WORD_IN) {
                return true;
            }
            next();
            if (!isName()) {
                return misplaced();
            }
            Home home = into.homeNamed(word);
            if (home == null || home.tenant != NONE) {
                return wrong(4);
            }
            home.tenant = house.number;
            house.home = home.number;
            next();
            return true;
        }

        private boolean readWishes(State into, House house) {
            for (int i = 0; i <= MOST_WISHES && isName(); i++) {
                Home home = into.homeNamed(word);
                if (home == null || house.rankOfWish(home.number) != NONE) {
                    return wrong(4);
                }
                if (house.wishCount >= MOST_WISHES) {
                    return wrong(5);
                }
                house.addWish(home.number);
                next();
            }
            return true;
        }

        private boolean readRule(State into) {
            next();
            if (token != WORD || keyword < FIRST_KIND) {
                return misplaced();
            }
            int rule = keyword - FIRST_KIND;
            next();
            if (token != NUMBER) {
                return misplaced();
            }
            if (!canBeTold(rule, number)) {
                return wrong(3);
            }
            into.setRule(rule, number);
            next();
            return true;
        }

        private boolean readSign() {
            if (token != SIGN) {
                return misplaced();
            }
            next();
            return true;
        }

        private boolean isName() {
            return token == WORD && keyword == NONE;
        }

        private boolean isNewName(State into) {
            if (!isName()) {
                return misplaced();
            }
            return into.isTaken(word) ? wrong(4) : true;
        }

        private boolean isNumber(int least, int greatest) {
            if (token != NUMBER) {
                return misplaced();
            }
            return number < least || number > greatest ? wrong(3) : true;
        }

        private boolean misplaced() {
            return wrong(token == NO_TOKEN ? 1 : 2);
        }

        private boolean wrong(int kind) {
            fault = kind;
            place = start;
            return false;
        }

        /** The byte at a place of the TEXT, or NONE behind it. */
        private int byteAt(int i) {
            return i < 0 || i >= end || i >= TAPE_BYTES ? NONE : tape[i];
        }

        private static boolean isLetter(int b) {
            return b >= 'a' && b <= 'z';
        }

        private static boolean isDigit(int b) {
            return b >= '0' && b <= '9';
        }

        private void next() {
            while (at < end && (byteAt(at) == 10 || byteAt(at) == 32)) {
                at++;
            }
            start = at;
            int first = byteAt(at);
            if (first == NONE) {
                token = END;
            } else if (isLetter(first)) {
                nextWord();
            } else if (isDigit(first)) {
                nextNumber();
            } else {
                token = first == ';' ? SIGN : NO_TOKEN;
                at++;
            }
        }

        private void nextWord() {
            word = 0;
            while (at < end && isLetter(byteAt(at))) {
                word = packLetter(word, byteAt(at));
                at++;
            }
            token = at - start <= 8 ? WORD : NO_TOKEN;
            keyword = NONE;
            for (int i = 0; i < KEYWORDS; i++) {
                if (keywords[i] == word) {
                    keyword = i;
                }
            }
        }

        private void nextNumber() {
            number = 0;
            while (at < end && isDigit(byteAt(at))) {
                number = number * 10 + (byteAt(at) - '0');
                at++;
            }
            token = at - start <= 3 ? NUMBER : NO_TOKEN;
        }
    }

    /** OUT, and how a State is written on it. */
    private static final class Paper {
        final int[] bytes;
        int length;

        Paper() {
            bytes = new int[OUT_BYTES];
            length = 0;
        }

        int byteAt(int i) {
            return i < 0 || i >= length || i >= OUT_BYTES ? NONE : bytes[i];
        }

        void write(State state) {
            length = 0;
            for (int i = 0; i < RULES; i++) {
                putText("rule");
                put(' ');
                putText(keyword(Reader.FIRST_KIND + i));
                putNumber(state.ruleAt(i));
                put(';');
            }
            for (int i = 0; i < state.homeCount; i++) {
                if (isTold(state, state.homes[i])) {
                    writeHome(state.homes[i]);
                }
            }
            for (int i = 0; i < state.houseCount; i++) {
                if (!state.houses[i].out) {
                    writeHouse(state, state.houses[i]);
                }
            }
        }

        private void writeHome(Home home) {
            putText("home");
            putName(home.name);
            putNumber(home.rooms);
            putNumber(home.ward);
            put(';');
        }

        private void writeHouse(State state, House house) {
            putText("house");
            putName(house.name);
            putNumber(house.band);
            putNumber(house.need);
            putNumber(house.tie);
            putNumber(house.day);
            Home where = state.homeAt(house.home);
            if (where != null && isTold(state, where)) {
                put(' ');
                putText("in");
                putName(where.name);
            }
            for (int k = 0; k < house.wishCount; k++) {
                Home wish = state.homeAt(house.wishAt(k));
                if (wish != null && isTold(state, wish)) {
                    putName(wish.name);
                }
            }
            put(';');
        }

        private static boolean isTold(State state, Home home) {
            House tenant = state.houseAt(home.tenant);
            return !home.shut && (tenant == null || !tenant.out);
        }

        private void put(int b) {
            if (length < OUT_BYTES) {
                bytes[length] = b;
                length++;
            }
        }

        private void putText(String text) {
            for (int i = 0; i < text.length(); i++) {
                put(text.charAt(i));
            }
        }

        private void putName(long name) {
            put(' ');
            for (int shift = 35; shift >= 0; shift -= 5) {
                int letter = (int) (name >> shift) & 31;
                if (letter != 0) {
                    put('a' + letter - 1);
                }
            }
        }

        private void putNumber(int number) {
            put(' ');
            if (number >= 100) {
                put('0' + number / 100 % 10);
            }
            if (number >= 10) {
                put('0' + number / 10 % 10);
            }
            put('0' + number % 10);
        }
    }

    /** MOST and THE GIFT: HOUSES and the FREE HOMES they could be given, matched by augmenting paths. */
    private static final class Matching {
        final int[] choices;
        final int[] holders;
        int houseCount;
        int unseen;

        Matching() {
            choices = new int[MOST_HOUSES];
            holders = new int[MOST_HOMES];
        }

        void look(State state) {
            houseCount = state.houseCount;
            for (int i = 0; i < houseCount; i++) {
                House house = state.houses[i];
                choices[i] = house.isAble() ? state.homesThatFit(house, true, true) : 0;
            }
        }

        /** How many of the HOUSES from one number on could be given HOMES that are not in a set. */
        int largest(int from, int given) {
            for (int i = 0; i < MOST_HOMES; i++) {
                holders[i] = NONE;
            }
            int placed = 0;
            for (int house = from; house < houseCount; house++) {
                unseen = ~given;
                if (place(this, house, 0)) {
                    placed++;
                }
            }
            return placed;
        }

        // Each level sees a HOME not seen before, so there are no more levels than HOMES.
        private static boolean place(Matching all, int house, int depth) {
            if (house < 0 || house >= all.houseCount || depth > MOST_HOMES) {
                return false;
            }
            for (int home = 0; home < MOST_HOMES; home++) {
                int bit = 1 << home;
                if ((all.choices[house] & all.unseen & bit) == 0) {
                    continue;
                }
                all.unseen &= ~bit;
                if (all.holders[home] == NONE || place(all, all.holders[home], depth + 1)) {
                    all.holders[home] = house;
                    return true;
                }
            }
            return false;
        }

        /** HOUSE by HOUSE the least HOME that leaves as many as there could be for those behind. */
        int giftOf(int asked) {
            int given = 0;
            int got = NONE;
            int open = largest(0, 0);
            for (int house = 0; house < houseCount && house <= asked; house++) {
                got = leastGift(house, given, open);
                if (got != NONE) {
                    given |= 1 << got;
                    open--;
                }
            }
            return got;
        }

        private int leastGift(int house, int given, int open) {
            for (int home = 0; home < MOST_HOMES; home++) {
                int bit = 1 << home;
                boolean could = house >= 0 && house < MOST_HOUSES && (choices[house] & ~given & bit) != 0;
                if (could && largest(house + 1, given | bit) + 1 == open) {
                    return home;
                }
            }
            return NONE;
        }
    }

    /** TRADE: who looks at whom, circle by circle. */
    private static final class Trades {
        final int[] looks;
        final int[] got;
        int untraded;
        int moved;
        int circles;
        int greatest;

        Trades() {
            looks = new int[MOST_HOUSES];
            got = new int[MOST_HOUSES];
        }

        int gotBy(int house) {
            return house < 0 || house >= MOST_HOUSES ? NONE : got[house];
        }

        void work(State state) {
            untraded = 0;
            moved = 0;
            circles = 0;
            greatest = 0;
            for (int i = 0; i < MOST_HOUSES; i++) {
                got[i] = NONE;
            }
            for (int i = 0; i < state.houseCount; i++) {
                if (state.houses[i].home != NONE) {
                    untraded |= 1 << i;
                }
            }
            // The order in which circles trade changes none of them, so one a round will do.
            for (int round = 0; round < MOST_HOUSES && untraded != 0; round++) {
                lookRound(state);
                tradeCircle(state, someoneInCircle());
            }
        }

        private boolean isIn(int house) {
            return house >= 0 && house < MOST_HOUSES && (untraded & (1 << house)) != 0;
        }

        private int lookOf(int house) {
            return house < 0 || house >= MOST_HOUSES ? NONE : looks[house];
        }

        private void lookRound(State state) {
            for (int i = 0; i < state.houseCount; i++) {
                if (isIn(i)) {
                    looks[i] = lookOfOne(state, state.houses[i]);
                }
            }
        }

        /** The HOUSE that lives where this one looks. */
        private int lookOfOne(State state, House house) {
            for (int k = 0; k < house.wishCount; k++) {
                Home home = state.homeAt(house.wishAt(k));
                if (home != null && house.suits(home) && isIn(home.tenant)) {
                    return home.tenant;
                }
            }
            return house.number;
        }

        // Whoever follows the looks long enough goes round in a circle.
        private int someoneInCircle() {
            int house = Integer.numberOfTrailingZeros(untraded);
            for (int step = 0; step < MOST_HOUSES; step++) {
                house = lookOf(house);
            }
            return house;
        }

        private void tradeCircle(State state, int first) {
            int size = 0;
            int house = first;
            for (int step = 0; step < MOST_HOUSES && isIn(house); step++) {
                House other = state.houseAt(lookOf(house));
                if (other == null) {
                    return;
                }
                got[house] = other.home;
                untraded &= ~(1 << house);
                size++;
                house = other.number;
            }
            greatest = Math.max(greatest, size);
            if (size > 1) {
                circles++;
                moved += size;
            }
        }
    }

    /** LONGEST, over sets of HOUSES that have moved: all rows of moves one by one would be too many. */
    private static final class Chains {
        final int[] choices;
        final int[] lives;
        // Of a set of HOUSES that moved and the latest of them: how many moves can follow.
        final int[] follow;
        final int[] movers;
        final int[] given;
        int houseCount;
        int length;

        Chains() {
            choices = new int[MOST_HOUSES];
            lives = new int[MOST_HOUSES];
            follow = new int[(1 << MOST_HOUSES) * MOST_HOUSES];
            movers = new int[MOST_HOUSES];
            given = new int[MOST_HOUSES];
        }

        int houseAt(int k) {
            return k < 0 || k >= length || k >= MOST_HOUSES ? NONE : movers[k];
        }

        int homeAt(int k) {
            return k < 0 || k >= length || k >= MOST_HOUSES ? NONE : given[k];
        }

        void work(State state) {
            look(state);
            fillFollow();
            length = 0;
            int first = NONE;
            for (int i = 0; i < state.homeCount; i++) {
                int moves = state.homes[i].isFree() ? longestFrom(i, 0) : 0;
                if (moves > length) {
                    length = moves;
                    first = i;
                }
            }
            noteRow(first);
        }

        private void look(State state) {
            houseCount = state.houseCount;
            for (int i = 0; i < houseCount; i++) {
                House house = state.houses[i];
                choices[i] = house.isAble() ? state.homesThatFit(house, false, true) : 0;
                lives[i] = house.home;
            }
        }

        // From the greatest set down: who moves next makes a set greater.
        private void fillFollow() {
            for (int moved = (1 << houseCount) - 1; moved > 0; moved--) {
                for (int last = 0; last < houseCount; last++) {
                    if ((moved & (1 << last)) != 0) {
                        follow[moved * MOST_HOUSES + last] = longestFrom(lives[last], moved);
                    }
                }
            }
        }

        /** The most moves that begin with a HOME given to one who has not moved. */
        private int longestFrom(int home, int moved) {
            int most = 0;
            for (int house = 0; house < houseCount && home != NONE; house++) {
                most = Math.max(most, movesBy(house, home, moved));
            }
            return most;
        }

        private int movesBy(int house, int home, int moved) {
            int bit = 1 << house;
            if ((moved & bit) != 0 || (choices[house] & (1 << home)) == 0) {
                return 0;
            }
            return 1 + follow[(moved | bit) * MOST_HOUSES + house];
        }

        private void noteRow(int first) {
            int home = first;
            int moved = 0;
            for (int k = 0; k < length && k < MOST_HOUSES; k++) {
                int mover = moverFor(home, moved, length - k);
                if (mover == NONE) {
                    return;
                }
                movers[k] = mover;
                given[k] = home;
                moved |= 1 << mover;
                home = lives[mover];
            }
        }

        private int moverFor(int home, int moved, int moves) {
            for (int house = 0; house < houseCount && home != NONE; house++) {
                if (movesBy(house, home, moved) == moves) {
                    return house;
                }
            }
            return NONE;
        }
    }
}
