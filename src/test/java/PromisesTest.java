import java.util.NoSuchElementException;

/** For each promise of the document its ordinary answers, its edges and each STATUS told with it. */
public final class PromisesTest {
    private static final int NONE = HomesQueue.NONE;
    private static final int MIN = Integer.MIN_VALUE;
    private static final int MAX = Integer.MAX_VALUE;

    // Three HOMES in two WARDS; c is lived in by r.
    private static final String THREE = "home a 2 1;home b 3 1;home c 2 2;"
            + "house p 2 2 1 100 a b;house q 1 2 2 50;house r 3 2 1 200 in c b;";
    // p, q, r live round in a circle of WISHES; s by itself.
    private static final String ROUND = "home a 2 0;home b 2 0;home c 2 0;home d 2 0;home e 2 0;"
            + "house p 1 2 0 0 in a b;house q 1 2 0 0 in b c;house r 1 2 0 0 in c a;house s 1 2 0 0 in d a;";

    private static int promise;
    private static int checks;
    private static int wrong;

    private static void due(String call, int got, int want) {
        checks++;
        if (got != want) {
            wrong++;
            System.out.println("promise " + promise + ": " + call + " answered " + got + ", due is " + want);
        }
    }

    /** An answer of STATUS 0. */
    private static void is(HomesQueue x, String call, int got, int want) {
        due(call, got, want);
        due(call + ", STATUS", x.status(), 0);
    }

    private static void not(HomesQueue x, String call, int got, int status) {
        due(call, got, NONE);
        due(call + ", STATUS", x.status(), status);
    }

    private static void feed(HomesQueue x, String text) {
        String padded = text + " ".repeat((20 - text.length() % 20) % 20);
        for (int i = 0; i < padded.length(); i += 20) {
            int[] n = new int[5];
            for (int k = 0; k < 20; k++) {
                n[k / 4] = n[k / 4] << 8 | padded.charAt(i + k);
            }
            x.feed(n[0], n[1], n[2], n[3], n[4]);
        }
    }

    private static HomesQueue told(String text) {
        HomesQueue x = new HomesQueue();
        feed(x, text);
        if (x.load(text.length()) == NONE) {
            due("load of " + text + ": FAULT " + x.fault(0) + " at " + x.fault(1), 0, 1);
        }
        return x;
    }

    private static String printed(HomesQueue x) {
        int n = x.print();
        StringBuilder b = new StringBuilder();
        for (int i = 0; i < n; i++) {
            b.append((char) x.out(i));
        }
        return b.toString();
    }

    private static void duePrinted(HomesQueue x, String want) {
        String got = printed(x);
        due("print() of " + got, got.equals(want) ? 1 : 0, 1);
    }

    private static int outOrThrow(HomesQueue x, int i) {
        try {
            return x.out(i);
        } catch (NoSuchElementException e) {
            return -2;
        }
    }

    private static void fault(String text, int kind, int place) {
        HomesQueue x = new HomesQueue();
        feed(x, text);
        not(x, text, x.load(text.length()), 9);
        due(text + ": fault(0)", x.fault(0), kind);
        due(text + ": fault(1)", x.fault(1), place);
    }

    private static void right(String text, int houses) {
        HomesQueue x = new HomesQueue();
        feed(x, text);
        is(x, text, x.load(text.length()), houses);
        due(text + ": fault(0)", x.fault(0), 0);
        due(text + ": fault(1)", x.fault(1), NONE);
    }

    public static void main(String[] args) {
        newObject();
        feeding();
        loading();
        faults();
        counts();
        homes();
        houses();
        rulesAndWhy();
        orders();
        turns();
        letsAndOffers();
        tallies();
        aheads();
        tipsAndWoulds();
        topsAndLots();
        fitsWardsEnvy();
        levers();
        queues();
        gifts();
        tradeRounds();
        longestRows();
        gaps();
        bidding();
        weekEnds();
        wishing();
        leaving();
        shutting();
        needing();
        ruling();
        undoing();
        printing();
        System.out.println("PromisesTest: " + checks + " checks, " + wrong + " wrong");
        if (wrong != 0) {
            System.exit(1);
        }
    }

    private static void newObject() {
        promise = 1;
        HomesQueue x = new HomesQueue();
        due("status()", x.status(), 0);
        int[] untold = {3, 4, 0, 0, 999, 2};
        for (int i = 0; i < 6; i++) {
            is(x, "rule(" + i + ")", x.rule(i), untold[i]);
        }
        for (int i = 0; i < 10; i++) {
            is(x, "many(" + i + ")", x.many(i), 0);
        }
        due("NONE", HomesQueue.NONE, -1);
        promise = 2;
        not(x, "many(10)", x.many(10), 1);
        due("status() again", x.status(), 1);
        x.feed(0, 0, 0, 0, 0);
        x.fault(0);
        outOrThrow(x, 0);
        due("status() behind calls that have none", x.status(), 1);
        x.most();
        due("status() behind most()", x.status(), 0);
    }

    private static void feeding() {
        promise = 3;
        HomesQueue x = new HomesQueue();
        for (int i = 1; i <= 45; i++) {
            due("feed " + i, x.feed(0x20202020, 0x20202020, 0x20202020, 0x20202020, 0x20202020), 20 * i);
        }
        due("feed 46", x.feed(0, 0, 0, 0, 0), NONE);
        is(x, "load(900)", x.load(900), 0);
        due("feed of a new tape", x.feed(0x686f6d65, 0x20612031, 0x20303b20, -1, MIN), 20);
        is(x, "load(11)", x.load(11), 0);
        is(x, "many(0)", x.many(0), 1);
        x.feed(0x20202020, 0x202020ff, 0, 0, 0);
        not(x, "load(20)", x.load(20), 9);
        due("a byte of 255, place", x.fault(1), 7);
    }

    private static void loading() {
        promise = 4;
        HomesQueue x = new HomesQueue();
        is(x, "load(0)", x.load(0), 0);
        not(x, "load(1)", x.load(1), 1);
        feed(x, "home a 1 0;house p 1 1 0 0;");
        not(x, "load(-1)", x.load(-1), 1);
        not(x, "load(41)", x.load(41), 1);
        not(x, "load(MIN)", x.load(MIN), 1);
        is(x, "load(27): the tape stayed", x.load(27), 1);
        not(x, "load(1) behind it: the tape is empty", x.load(1), 1);
        x.bid(0, 0);
        x.rules(0, 5);
        x.week();
        feed(x, "home b 9 0;");
        not(x, "load of a FAULT", x.load(11), 9);
        not(x, "the tape is empty then", x.load(1), 1);
        is(x, "LETS stay", x.many(3), 1);
        is(x, "ACTS stay", x.many(7), 3);
        is(x, "rules stay", x.rule(0), 5);
        is(x, "load(0)", x.load(0), 0);
        is(x, "HOMES", x.many(0), 0);
        is(x, "WEEK", x.many(2), 0);
        is(x, "LETS", x.many(3), 0);
        is(x, "ACTS are forgotten", x.many(7), 0);
        is(x, "OFFERS", x.many(9), 0);
        is(x, "rules as without a LINE", x.rule(0), 3);
        not(x, "undo()", x.undo(), 5);
        HomesQueue y = told("rule age 5;rule age 7;rule bids 1;rule refuse 9;rule bar 52;rule local 9;rule quota 100;");
        int[] rules = {9, 52, 9, 100, 7, 1};
        for (int i = 0; i < 6; i++) {
            is(y, "rule(" + i + ")", y.rule(i), rules[i]);
        }
    }

    private static String many(String before, int n, String after) {
        StringBuilder b = new StringBuilder();
        for (int i = 0; i < n; i++) {
            b.append(before).append((char) ('a' + i)).append(after);
        }
        return b.toString();
    }

    private static void faults() {
        promise = 5;
        HomesQueue x = new HomesQueue();
        due("fault(0) ahead of any", x.fault(0), NONE);
        due("fault(1) ahead of any", x.fault(1), NONE);
        not(x, "load(5)", x.load(5), 1);
        due("fault(0) behind STATUS 1", x.fault(0), NONE);
        x.load(0);
        due("fault(0)", x.fault(0), 0);
        due("fault(1)", x.fault(1), NONE);
        due("fault(2)", x.fault(2), NONE);
        due("fault(-1)", x.fault(-1), NONE);
        feed(x, "x");
        x.load(1);
        due("fault(0)", x.fault(0), 2);
        x.load(3);
        due("fault(0) behind STATUS 1: as before", x.fault(0), 2);
        right(" \n ", 0);
        right("home a2 1;home b 3\n0 ;house abcdefgh 004 1 7 999in b a b;", 1);
        right("homea1 0;".replace("homea", "home a"), 0);
        fault("homea 1 0;", 2, 0);
        fault("home abcdefghi 1 0;", 1, 5);
        fault("home a 0001 0;", 1, 7);
        fault("home a 1 0,", 1, 10);
        fault("Home a 1 0;", 1, 0);
        fault("home a 1 0;\t", 1, 11);
        fault("; ", 2, 0);
        fault("5", 2, 0);
        fault("in a", 2, 0);
        fault("home a 1  ", 2, 10);
        fault("home a 1 0", 2, 10);
        fault("home 1 1 0;", 2, 5);
        fault("home a b 0;", 2, 7);
        fault("home a 1 0 0;", 2, 11);
        for (String word : new String[] {"home", "house", "rule", "in", "refuse", "bar", "local", "quota", "age", "bids"}) {
            fault("home " + word + " 1 0;", 2, 5);
            fault("house " + word + " 1 1 0 0;", 2, 6);
            fault("house p 1 1 0 0 " + word + ";", 2, word.equals("in") ? 18 : 16);
        }
        fault("home a 0 0;", 3, 7);
        fault("home a 5 0;", 3, 7);
        fault("home a 1 8;", 3, 9);
        fault("house p 0 1 0 0;", 3, 8);
        fault("house p 5 1 0 0;", 3, 8);
        fault("house p 1 0 0 0;", 3, 10);
        fault("house p 1 5 0 0;", 3, 10);
        fault("house p 1 1 8 0;", 3, 12);
        fault("house p 1 1 0 1000;", 1, 14);
        fault("house p 1 1 0 ;", 2, 14);
        ruleFaults();
        fault("home a 1 0;home a 1 0;", 4, 16);
        fault("house p 1 1 0 0;home p 1 0;", 4, 21);
        fault("home a 1 0;house a 1 1 0 0;", 4, 17);
        fault("house p 1 1 0 0;house p 1 1 0 0;", 4, 22);
        fault("house p 1 1 0 0 a;home a 1 0;", 4, 16);
        fault("house p 1 1 0 0 p;", 4, 16);
        fault("house p 1 1 0 0 in a;", 4, 19);
        fault("house p 1 1 0 0 in p;", 4, 19);
        fault("home a 1 0;house p 1 1 0 0 in a;house q 1 1 0 0 in a;", 4, 51);
        fault("home a 1 0;house p 1 1 0 0 in a in a;", 2, 32);
        fault("home a 1 0;house p 1 1 0 0 a in a;", 2, 29);
        fault("home a 1 0;house p 1 1 0 0 a a;", 4, 29);
        fault("home a 1 0;house p 1 1 0 0 in ;", 2, 30);
        right("home a 1 0;house p 1 1 0 0 in a a;", 1);
        String ten = many("home ", 10, " 1 0;");
        right(ten, 0);
        fault(ten + "home 5", 5, 110);
        fault(ten + "home", 5, 110);
        String eight = many("house p", 8, " 1 1 0 0;");
        right(eight, 8);
        fault(eight + "house in", 5, 136);
        right(ten + "house p 1 1 0 0 a b c d e f;", 1);
        fault(ten + "house p 1 1 0 0 a b c d e f g;", 5, 138);
        fault(ten + "house p 1 1 0 0 a b c d e f x;", 4, 138);
        fault(ten + "house p 1 1 0 0 a b c d e f a;", 4, 138);
        fault(ten + "house p 1 1 0 0 a b c d e f in;", 2, 138);
        fault(ten + "house p 1 1 0 0 a b c d e f 1;", 2, 138);
        fault(ten + "house p 1 1 0 0 a b c d e f ?;", 1, 138);
    }

    private static void ruleFaults() {
        fault("rule a 1;", 2, 5);
        fault("rule home 1;", 2, 5);
        fault("rule 1;", 2, 5);
        fault("rule refuse;", 2, 11);
        fault("rule refuse 1", 2, 13);
        fault("rule refuse 0;", 3, 12);
        fault("rule refuse 10;", 3, 12);
        fault("rule bar 0;", 3, 9);
        fault("rule bar 53;", 3, 9);
        fault("rule local 10;", 3, 11);
        fault("rule quota 101;", 3, 11);
        fault("rule age 0;", 3, 9);
        fault("rule bids 0;", 3, 10);
        fault("rule bids 4;", 3, 10);
        right("rule refuse 1;rule bar 1;rule local 0;rule quota 0;rule age 1;rule bids 1;", 0);
        right("rule refuse 9;rule bar 52;rule local 9;rule quota 100;rule age 999;rule bids 3;", 0);
    }

    private static void counts() {
        promise = 6;
        HomesQueue x = told(THREE);
        int[] first = {3, 3, 0, 0, 0, 2, 3, 0, 0, 0};
        for (int i = 0; i < 10; i++) {
            is(x, "many(" + i + ")", x.many(i), first[i]);
        }
        x.bid(2, 0);
        x.bid(1, 0);
        x.bid(0, 1);
        is(x, "BIDS", x.many(4), 3);
        x.week();
        int[] then = {3, 3, 1, 2, 0, 0, 1, 4, 0, 2};
        for (int i = 0; i < 10; i++) {
            is(x, "many(" + i + ") behind the WEEK", x.many(i), then[i]);
        }
        not(x, "many(-1)", x.many(-1), 1);
        not(x, "many(10)", x.many(10), 1);
        HomesQueue y = told("home a 2 1;home b 2 1;house p 1 2 1 0 b;");
        y.bid(0, 0);
        y.week();
        is(y, "REFUSALS in all", y.many(8), 1);
        is(y, "OFFERS", y.many(9), 1);
        y.week();
        is(y, "OFFERS of the latest WEEK", y.many(9), 0);
        is(y, "REFUSALS in all", y.many(8), 1);
    }

    private static void homes() {
        promise = 7;
        HomesQueue x = told(THREE);
        is(x, "ROOMS", x.home(1, 0), 3);
        is(x, "WARD", x.home(2, 1), 2);
        not(x, "nobody", x.home(0, 2), 5);
        is(x, "who", x.home(2, 2), 2);
        is(x, "FREE", x.home(0, 3), 1);
        is(x, "not FREE", x.home(2, 3), 0);
        x.bid(0, 1);
        x.bid(1, 1);
        is(x, "how many BID", x.home(1, 4), 2);
        is(x, "SHUT", x.home(0, 6), 0);
        x.shut(0, true);
        is(x, "SHUT", x.home(0, 6), 1);
        is(x, "a SHUT one is not FREE", x.home(0, 3), 0);
        x.week();
        is(x, "LETS of it", x.home(1, 5), 1);
        is(x, "LETS of it", x.home(0, 5), 0);
        is(x, "TAKEN: no WEEK as FREE", x.home(1, 7), 0);
        is(x, "SHUT: no WEEK as FREE", x.home(0, 7), 0);
        x.shut(0, false);
        x.week();
        x.week();
        is(x, "FREE for two WEEKS", x.home(0, 7), 2);
        not(x, "what 8", x.home(0, 8), 1);
        not(x, "what -1", x.home(0, -1), 1);
        not(x, "HOME 3", x.home(3, 0), 2);
        not(x, "HOME -1", x.home(-1, 2), 2);
        not(x, "1 ahead of 2", x.home(3, 8), 1);
        HomesQueue y = told(THREE);
        y.leave(2);
        is(y, "left in this WEEK", y.home(2, 3), 0);
        y.week();
        is(y, "FREE from the next on", y.home(2, 3), 1);
        is(y, "and had no WEEK as FREE", y.home(2, 7), 0);
    }

    private static void houses() {
        promise = 8;
        HomesQueue x = told("rule age 300;rule refuse 2;rule bar 3;" + THREE);
        is(x, "BAND", x.house(2, 0), 3);
        is(x, "BAND NOW, 800 days by 300", x.house(2, 1), 1);
        is(x, "BAND NOW, 1 at least", x.house(1, 1), 1);
        x.rules(4, 801);
        is(x, "BAND NOW, 800 days by 801", x.house(2, 1), 3);
        x.rules(4, 800);
        is(x, "BAND NOW, 800 days by 800", x.house(2, 1), 2);
        x.rules(4, 807);
        x.week();
        is(x, "BAND NOW, 807 days by 807", x.house(2, 1), 2);
        is(x, "NEED", x.house(2, 2), 2);
        is(x, "TIE", x.house(1, 3), 2);
        is(x, "DAY", x.house(2, 4), 200);
        is(x, "where it lives", x.house(2, 5), 2);
        not(x, "none", x.house(0, 5), 5);
        is(x, "OUT", x.house(0, 8), 0);
        x.bid(2, 0);
        x.bid(2, 1);
        is(x, "its BIDS", x.house(2, 9), 2);
        is(x, "WISHES", x.house(0, 10), 2);
        is(x, "WISH 0", x.house(0, 20), 0);
        is(x, "WISH 1", x.house(0, 21), 1);
        not(x, "WISH 2", x.house(0, 22), 5);
        not(x, "WISH 5", x.house(0, 25), 5);
        x.unbid(2, 1);
        x.week();
        is(x, "REFUSALS that count", x.house(2, 6), 1);
        is(x, "not BARRED", x.house(2, 7), 0);
        x.bid(2, 0);
        x.week();
        is(x, "REFUSALS that count", x.house(2, 6), 0);
        is(x, "BARRED", x.house(2, 7), 3);
        x.week();
        is(x, "BARRED", x.house(2, 7), 2);
        is(x, "PASSED OVER", x.house(2, 11), 0);
        x.leave(2);
        is(x, "OUT", x.house(2, 8), 1);
        for (int what : new int[] {-1, 12, 19, 26, MIN, MAX}) {
            not(x, "what " + what, x.house(0, what), 1);
        }
        not(x, "HOUSE 3", x.house(3, 0), 2);
        not(x, "HOUSE -1", x.house(-1, 20), 2);
        not(x, "1 ahead of 2", x.house(3, 12), 1);
    }

    private static void rulesAndWhy() {
        promise = 9;
        HomesQueue x = told("rule quota 77;rule age 33;" + THREE);
        is(x, "QUOTA", x.rule(3), 77);
        is(x, "AGE", x.rule(4), 33);
        is(x, "BIDS", x.rule(5), 2);
        not(x, "rule(6)", x.rule(6), 1);
        not(x, "rule(-1)", x.rule(-1), 1);
        promise = 10;
        HomesQueue y = told("rule refuse 1;rule bids 1;" + THREE + "home d 4 0;home e 1 0;house s 1 1 0 0;");
        is(y, "it may", y.why(0, 0), 0);
        is(y, "not FREE", y.why(0, 2), 3);
        is(y, "two ROOMS more", y.why(0, 3), 4);
        is(y, "a ROOM less", y.why(0, 4), 4);
        is(y, "a ROOM more", y.why(0, 1), 0);
        is(y, "not FREE ahead of not FIT", y.why(3, 2), 3);
        y.bid(0, 0);
        is(y, "BIDS already", y.why(0, 0), 5);
        is(y, "as many as the rule says", y.why(0, 1), 6);
        is(y, "not FIT ahead of as many", y.why(0, 3), 4);
        y.bid(2, 0);
        y.unbid(0, 0);
        y.week();
        is(y, "BARRED", y.why(2, 0), 2);
        is(y, "BARRED ahead of not FREE", y.why(2, 2), 2);
        y.leave(2);
        is(y, "OUT ahead of BARRED", y.why(2, 0), 1);
        not(y, "no such HOUSE", y.why(4, 0), 2);
        not(y, "no such HOUSE", y.why(-1, 0), 2);
        not(y, "no such HOME", y.why(0, 5), 2);
        not(y, "no such HOME", y.why(0, -1), 2);
        HomesQueue z = told("rule bids 3;" + many("home ", 3, " 1 0;") + "house p 1 1 0 0;");
        z.bid(0, 0);
        z.bid(0, 1);
        z.rules(5, 1);
        is(z, "more BIDS than the rule says", z.why(0, 2), 6);
        promise = 11;
        is(z, "BIDS", z.bids(0, 1), 1);
        is(z, "BIDS not", z.bids(0, 2), 0);
        not(z, "no such HOUSE", z.bids(1, 0), 2);
        not(z, "no such HOME", z.bids(0, 3), 2);
    }

    private static void orders() {
        promise = 12;
        HomesQueue x = told("home a 2 1;house p 3 2 1 5;house q 2 2 0 9;house r 2 2 0 7;house s 2 2 0 7;house t 4 1 0 0;");
        for (int i = 0; i < 5; i++) {
            x.bid(i, 0);
        }
        int[] order = {2, 3, 1, 4, 0};
        // t has waited 1000 days, which is 999 once: BAND NOW 3, and an earlier DAY than p.
        for (int i = 0; i < 5; i++) {
            is(x, "order(0, " + i + ")", x.order(0, i), order[i]);
        }
        not(x, "order(0, 5)", x.order(0, 5), 5);
        not(x, "order(0, -1)", x.order(0, -1), 1);
        not(x, "order(1, 0)", x.order(1, 0), 2);
        not(x, "order(1, -1)", x.order(1, -1), 1);
        not(x, "order(-1, 0)", x.order(-1, 0), 2);
        x.rules(2, 1);
        is(x, "a LOCAL TURN", x.order(0, 0), 0);
        promise = 13;
        HomesQueue y = told("rule refuse 1;home a 2 1;home b 2 1;home c 4 1;house p 3 2 1 305;house q 2 2 0 309;"
                + "house r 2 3 0 307;house s 1 2 0 307 b;");
        is(y, "q, s and not r", y.ahead(0, 0), 2);
        is(y, "s", y.ahead(1, 0), 1);
        is(y, "nobody", y.ahead(3, 0), 0);
        not(y, "it does not FIT", y.ahead(2, 0), 5);
        is(y, "r alone FITS", y.ahead(2, 2), 0);
        y.bid(3, 0);
        y.week();
        not(y, "BARRED", y.ahead(3, 0), 5);
        is(y, "who is BARRED does not count", y.ahead(1, 0), 0);
        y.leave(1);
        not(y, "OUT", y.ahead(1, 0), 5);
        is(y, "who is OUT does not count", y.ahead(0, 0), 0);
        not(y, "no such HOUSE", y.ahead(4, 0), 2);
        not(y, "no such HOME", y.ahead(0, 3), 2);
    }

    private static void turns() {
        promise = 14;
        HomesQueue x = told("rule local 2;rule quota 50;home a 1 1;home b 1 1;home c 1 2;home d 1 1;"
                + "house p 1 1 0 0;house q 1 1 0 0;house r 1 1 0 0 in d;");
        is(x, "one LET to come of two", x.turn(0, 0), 0);
        is(x, "no LETS: no QUOTA TURN", x.turn(0, 1), 0);
        x.bid(0, 0);
        x.week();
        is(x, "the second LET in the WARD", x.turn(1, 0), 1);
        is(x, "the first in another", x.turn(2, 0), 0);
        is(x, "0 of 1 below half", x.turn(2, 1), 1);
        x.bid(1, 1);
        x.bid(2, 1);
        is(x, "who lives in a HOME goes ahead", x.order(1, 0), 2);
        x.week();
        is(x, "1 of 2 is not below half", x.turn(2, 1), 0);
        is(x, "the third LET in the WARD", x.turn(3, 0), 0);
        x.rules(3, 51);
        is(x, "1 of 2 is below 51 of 100", x.turn(2, 1), 1);
        x.rules(2, 0);
        is(x, "no LOCAL", x.turn(1, 0), 0);
        not(x, "what 2", x.turn(0, 2), 1);
        not(x, "what -1", x.turn(0, -1), 1);
        not(x, "HOME 4", x.turn(4, 0), 2);
        not(x, "1 ahead of 2", x.turn(4, 2), 1);
        HomesQueue y = told("rule local 1;rule quota 100;home a 1 1;home b 1 1;home c 1 1;home d 1 1;"
                + "house n 1 1 0 0;house p 3 1 0 0;house q 2 1 0 0 in c;house r 4 1 1 0;house s 4 1 1 1 in d;");
        y.bid(0, 0);
        y.week();
        for (int i = 1; i < 5; i++) {
            y.bid(i, 1);
        }
        int[] order = {4, 3, 2, 1};
        for (int i = 0; i < 4; i++) {
            is(y, "TIES, then those who live in a HOME, then BANDS", y.order(1, i), order[i]);
        }
    }

    private static void letsAndOffers() {
        promise = 15;
        HomesQueue x = told("rule local 2;rule quota 60;home a 1 1;home b 1 1;home c 1 1;home d 1 1;"
                + "house p 1 1 0 300 b;house q 2 1 0 300;house r 3 1 1 300 in d;house s 4 1 1 300;");
        x.bid(0, 0);
        x.bid(1, 0);
        x.week();
        x.bid(2, 1);
        x.bid(3, 2);
        x.week();
        x.bid(0, 3);
        int[][] lets = {{1, 0, 0, 1, 0, 0, 2, 2}, {2, 1, 1, 1, 1, 1, 1, 3}, {3, 2, 1, 1, 0, 1, 1, 4}};
        for (int k = 0; k < 3; k++) {
            for (int what = 0; what < 8; what++) {
                is(x, "let(" + k + ", " + what + ")", x.let(k, what), lets[k][what]);
            }
        }
        not(x, "let(3, 0)", x.let(3, 0), 2);
        not(x, "let(-1, 0)", x.let(-1, 0), 2);
        not(x, "let(0, 8)", x.let(0, 8), 1);
        not(x, "let(0, -1)", x.let(0, -1), 1);
        not(x, "let(3, 8)", x.let(3, 8), 1);
        x.wish(0, 3);
        x.week();
        is(x, "CHAIN of the HOME that r left", x.let(3, 3), 2);
        promise = 16;
        HomesQueue y = told("home a 1 1;home b 1 1;" + many("house p", 5, " 1 1 0 0 b;"));
        for (int i = 0; i < 5; i++) {
            y.bid(i, 0);
        }
        y.bid(4, 1);
        y.week();
        int[][] offers = {{0, 0, 0}, {1, 0, 0}, {2, 0, 0}, {4, 1, 1}};
        for (int k = 0; k < 4; k++) {
            for (int what = 0; what < 3; what++) {
                is(y, "offer(" + k + ", " + what + ")", y.offer(k, what), offers[k][what]);
            }
        }
        not(y, "offer(4, 0): 3 OFFERS of a HOME at most", y.offer(4, 0), 2);
        not(y, "offer(-1, 0)", y.offer(-1, 0), 2);
        not(y, "offer(0, 3)", y.offer(0, 3), 1);
        not(y, "offer(0, -1)", y.offer(0, -1), 1);
        not(y, "offer(4, 3)", y.offer(4, 3), 1);
        y.week();
        not(y, "offer(0, 0) behind a WEEK without", y.offer(0, 0), 2);
    }

    private static void tallies() {
        promise = 17;
        // n takes a, o the HOME that n left, p the one that o left: CHAINS 1, 2, 3.
        HomesQueue x = told("home a 1 0;home b 1 1;home c 1 2;home d 1 3;house n 1 1 0 0 in b a;"
                + "house o 1 1 0 0 in c b;house p 1 1 2 0 c;house q 1 1 3 0 in d;");
        int[] first = {0, 0, 0, 0, 0};
        for (int i = 0; i < 5; i++) {
            is(x, "tally(" + i + ")", x.tally(i), first[i]);
        }
        x.auto();
        is(x, "the first LET", x.week(), 1);
        x.bid(1, 1);
        is(x, "the second LET", x.week(), 1);
        x.bid(2, 2);
        is(x, "the third LET", x.week(), 1);
        int[] then = {3, 1, 2, 2, 0};
        for (int i = 0; i < 5; i++) {
            is(x, "tally(" + i + ") behind a chain", x.tally(i), then[i]);
        }
        not(x, "tally(5)", x.tally(5), 1);
        not(x, "tally(-1)", x.tally(-1), 1);
        HomesQueue y = told("rule local 1;home a 1 1;house p 4 1 1 500;house q 1 1 0 500;house r 3 1 0 500;house s 4 1 0 500;");
        for (int i = 0; i < 4; i++) {
            y.bid(i, 0);
        }
        y.week();
        is(y, "PASSED OVER in all", y.tally(4), 2);
        is(y, "q", y.house(1, 11), 1);
        is(y, "r", y.house(2, 11), 1);
        is(y, "s has no lesser BAND NOW", y.house(3, 11), 0);
        promise = 18;
        HomesQueue z = told("home a 2 0;home b 3 0;home c 3 0;house p 1 2 0 0;house q 1 2 0 0;house r 1 4 0 0;");
        int[] lack = {0, 1, -2, 1};
        for (int i = 0; i < 4; i++) {
            is(z, "lack(" + (i + 1) + ")", z.lack(i + 1), lack[i]);
        }
        z.shut(2, true);
        is(z, "lack(3): -1 with STATUS 0", z.lack(3), -1);
        z.leave(0);
        is(z, "lack(2)", z.lack(2), 0);
        not(z, "lack(0)", z.lack(0), 1);
        not(z, "lack(5)", z.lack(5), 1);
    }

    private static void aheads() {
        String chain = "home a 1 0;home b 1 1;home c 1 2;house n 1 1 0 0 in b a;house o 1 1 0 0 in c b;house p 2 1 2 5 c;";
        promise = 19;
        HomesQueue x = told(chain);
        int[][] due = {{0, 0, 1, 3, 0, 0}, {1, 0, 1, 2, 1, 0}, {2, 0, 1, 1, 2, 0}, {3, 0, 0, 0, 3, 0}};
        for (int n = 0; n < 4; n++) {
            for (int what = 0; what < 6; what++) {
                is(x, "weeks(" + n + ", " + what + ")", x.weeks(n, what), due[n][what]);
            }
        }
        is(x, "weeks(30, 0)", x.weeks(30, 0), 3);
        is(x, "nothing came", x.many(3) + x.many(2) + x.many(4) + x.many(7), 0);
        not(x, "weeks(31, 0)", x.weeks(31, 0), 1);
        not(x, "weeks(-1, 0)", x.weeks(-1, 0), 1);
        not(x, "weeks(1, 6)", x.weeks(1, 6), 1);
        not(x, "weeks(1, -1)", x.weeks(1, -1), 1);
        HomesQueue y = told("rule bids 1;rule local 1;home a 1 0;home b 1 0;house p 1 1 1 0 b;house q 4 1 0 500 a;");
        y.bid(0, 0);
        is(y, "p REFUSES a, q TAKES a", y.weeks(1, 0), 1);
        is(y, "q with a TIE goes ahead: no REFUSAL", y.weeks(1, 1), 0);
        is(y, "p is PASSED OVER", y.weeks(1, 5), 1);
        y.rules(2, 0);
        is(y, "p is offered a first", y.weeks(1, 1), 1);
        is(y, "both, then", y.weeks(2, 0), 2);
        promise = 20;
        is(x, "n in WEEK 0", x.when(0, 1, false), 0);
        is(x, "n gets a", x.when(0, 1, true), 0);
        not(x, "p not within 2", x.when(2, 2, false), 5);
        is(x, "p in WEEK 2", x.when(2, 3, false), 2);
        is(x, "p gets c", x.when(2, 30, true), 2);
        not(x, "n 0", x.when(0, 0, true), 1);
        not(x, "n 31", x.when(0, 31, true), 1);
        not(x, "HOUSE 3", x.when(3, 1, true), 2);
        not(x, "1 ahead of 2", x.when(3, 0, true), 1);
        x.week();
        is(x, "WEEKS by number", x.when(2, 3, false), 3);
        x.leave(0);
        not(x, "OUT", x.when(0, 1, false), 4);
    }

    private static void tipsAndWoulds() {
        promise = 21;
        HomesQueue x = told("rule bids 1;rule refuse 1;home a 1 0;home b 1 0;home c 2 0;home d 3 0;house p 2 1 0 9;"
                + "house q 1 1 0 9;house r 3 1 0 9 b a d;");
        is(x, "the lesser number", x.tip(0), 0);
        is(x, "the dearest WISH", x.tip(2), 1);
        x.bid(1, 0);
        is(x, "the fewest ahead", x.tip(0), 1);
        x.bid(0, 1);
        is(x, "one ahead on each: the dearest", x.tip(2), 1);
        is(x, "it BIDS for b alone", x.tip(0), 1);
        is(x, "it BIDS for a alone", x.tip(1), 0);
        x.unbid(0, 1);
        x.unbid(1, 0);
        x.bid(2, 2);
        not(x, "it BIDS for c, which it would not TAKE, and may no more", x.tip(2), 5);
        x.week();
        not(x, "BARRED", x.tip(2), 5);
        not(x, "HOUSE 3", x.tip(3), 2);
        x.leave(0);
        not(x, "OUT", x.tip(0), 5);
        promise = 22;
        HomesQueue y = told("rule refuse 1;home a 1 0;home b 1 0;home c 1 0;home d 2 0;home e 1 0;house p 2 1 0 9;"
                + "house q 1 1 0 9;house r 3 1 0 9 b;house s 1 1 0 9 in e b;house t 3 3 0 9;");
        is(y, "p TAKES a", y.would(0, 0), 1);
        is(y, "r REFUSES a", y.would(2, 0), 2);
        y.bid(1, 0);
        is(y, "q goes ahead", y.would(0, 0), 0);
        is(y, "r is not offered a", y.would(2, 0), 0);
        y.bid(0, 1);
        is(y, "p's own BID counts no more", y.would(2, 1), 0);
        is(y, "q's own BID for a counts no more", y.would(1, 1), 1);
        is(y, "nothing changed", y.many(4) * 10 + y.many(2), 20);
        not(y, "not FREE", y.would(0, 4), 5);
        not(y, "it does not FIT", y.would(4, 0), 5);
        not(y, "no such HOUSE", y.would(5, 0), 2);
        not(y, "no such HOME", y.would(0, 5), 2);
        y.bid(2, 2);
        y.week();
        not(y, "BARRED", y.would(2, 1), 5);
        not(y, "OUT", y.would(0, 2), 5);
        // Each of three REFUSES; the fourth is offered nothing.
        HomesQueue z = told("home a 1 0;home b 1 0;" + many("house p", 3, " 1 1 0 0 b;") + "house q 2 1 0 500;");
        z.bid(0, 0);
        z.bid(1, 0);
        is(z, "the third OFFER", z.would(3, 0), 1);
        z.bid(2, 0);
        is(z, "3 OFFERS at most", z.would(3, 0), 0);
        // q is OUT by then, as it TOOK a.
        HomesQueue v = told("home a 1 0;home b 1 0;house q 1 1 0 0;house p 2 1 0 500;");
        v.bid(0, 0);
        v.bid(0, 1);
        is(v, "q TOOK a before", v.would(1, 1), 1);
    }

    private static void topsAndLots() {
        promise = 23;
        HomesQueue x = told("rule refuse 1;home a 1 0;home b 1 0;home c 4 0;house p 2 1 0 9;house q 1 1 0 9 b;house r 1 2 0 9;house s 1 1 0 5 in b a;");
        is(x, "s", x.top(0), 3);
        is(x, "q: b is not FREE, but s would not TAKE it", x.top(1), 1);
        not(x, "it FITS none", x.top(2), 5);
        x.leave(3);
        is(x, "p, as q would not TAKE a", x.top(0), 0);
        x.bid(1, 0);
        x.week();
        is(x, "q is BARRED: p", x.top(1), 0);
        x.leave(0);
        not(x, "nobody", x.top(0), 5);
        not(x, "HOME 3", x.top(3), 2);
        not(x, "HOME -1", x.top(-1), 2);
        promise = 24;
        // p has 14 numbers (100 days), q 1 (1 day), r none, s 142 (1000 days).
        HomesQueue y = told("home a 1 0;home b 2 0;home c 4 0;house p 1 1 0 900;house q 1 1 0 999;house r 1 2 0 0;house s 1 1 0 0 a;");
        int[] seeds = {0, 1, 2, 5, 13, 65536, 4000, 777};
        for (int seed : seeds) {
            int at = (int) ((75L * seed + 74) % 65537 % 157);
            is(y, "lot(0, " + seed + ")", y.lot(0, seed), at < 14 ? 0 : at < 15 ? 1 : 3);
        }
        int drawnQ = NONE;
        for (int seed = 0; seed <= 2000; seed++) {
            if ((75 * seed + 74) % 65537 % 157 == 14) {
                drawnQ = y.lot(0, seed);
            }
        }
        due("q has a number", drawnQ, 1);
        y.week();
        int all = 15 + 1 + 143;
        is(y, "WEEKS go on", y.lot(0, 3), (75 * 3 + 74) % all < 15 ? 0 : (75 * 3 + 74) % all < 16 ? 1 : 3);
        not(y, "nobody could be given it", y.lot(2, 0), 5);
        not(y, "seed 65537", y.lot(0, 65537), 1);
        not(y, "seed -1", y.lot(0, -1), 1);
        not(y, "HOME 3", y.lot(3, 0), 2);
        not(y, "1 ahead of 2", y.lot(3, -1), 1);
    }

    private static void fitsWardsEnvy() {
        promise = 25;
        HomesQueue x = told("home a 1 0;home b 2 0;home c 3 0;home d 4 0;home e 2 0;home f 1 0;"
                + "house p 1 2 0 0 in b e a c;house q 1 4 0 0;house r 1 1 0 0;");
        is(x, "all", x.fits(0, 0), 2 + 4 + 16);
        is(x, "FREE", x.fits(0, 1), 4 + 16);
        is(x, "would TAKE", x.fits(0, 2), 4 + 16);
        is(x, "no ROOM more than 4", x.fits(1, 0), 8);
        is(x, "without WISHES", x.fits(2, 2), 1 + 2 + 16 + 32);
        x.shut(4, true);
        is(x, "SHUT", x.fits(0, 1), 4);
        not(x, "what 3", x.fits(0, 3), 1);
        not(x, "what -1", x.fits(0, -1), 1);
        not(x, "HOUSE 3", x.fits(3, 0), 2);
        not(x, "1 ahead of 2", x.fits(3, 3), 1);
        promise = 26;
        HomesQueue y = told("home a 1 5;home b 1 3;home c 1 3;home d 1 5;house p 1 1 7 0;house q 1 1 7 0;house r 1 1 3 0 in c;");
        is(y, "WARD 3, 0 above; nobody counts WARD 7", y.ward(false), 3);
        is(y, "by 0", y.ward(true), 0);
        y.leave(2);
        is(y, "WARD 3", y.ward(false), 3);
        is(y, "by -1, STATUS 0", y.ward(true), -1);
        y.shut(0, true);
        y.shut(3, true);
        is(y, "WARD 5: its HOMES are SHUT, and count", y.ward(false), 5);
        y.undo();
        is(y, "both -1: the least", y.ward(false), 3);
        HomesQueue none = new HomesQueue();
        not(none, "no HOMES", none.ward(false), 5);
        not(none, "no HOMES", none.ward(true), 5);
        promise = 27;
        HomesQueue z = told("home a 1 0;home b 1 0;home c 1 0;home d 1 0;house o 1 1 0 0 a;house p 1 1 0 0 in a b d;"
                + "house q 1 1 0 0 in b c a b;house r 1 1 0 0 in c b;house s 1 1 0 0 in d d a;");
        is(z, "p and q, q and r", z.envy(0), 2);
        is(z, "the lesser", z.envy(1), 1);
        is(z, "the greater", z.envy(2), 2);
        z.need(2, 2);
        is(z, "a, c do not FIT q", z.envy(0), 0);
        not(z, "none", z.envy(1), 5);
        not(z, "none", z.envy(2), 5);
        not(z, "what 3", z.envy(3), 1);
        not(z, "what -1", z.envy(-1), 1);
        z.undo();
        z.unwish(4, 3);
        is(z, "s has its own no more as a WISH", z.envy(0), 3);
        z.unwish(2, 0);
        is(z, "q would not live in a", z.envy(0), 2);
        is(z, "p and s", z.envy(1) * 10 + z.envy(2), 14);
    }

    private static void levers() {
        promise = 28;
        // With one BID each both BID for a; with one more the second gets b.
        HomesQueue x = told("rule refuse 1;rule bar 1;rule bids 1;home a 1 0;home b 1 0;house p 1 1 0 0;house q 1 1 0 0;");
        is(x, "LETS", x.lever(1, 0), 2);
        is(x, "BIDS", x.lever(1, 1), 5);
        is(x, "one more", x.lever(1, 2), 2);
        is(x, "all alike: REFUSE, which can't be less", x.lever(2, 1), 0);
        is(x, "one more", x.lever(2, 2), 2);
        is(x, "LETS", x.lever(2, 0), 2);
        is(x, "rules are as they were", x.rule(5), 1);
        HomesQueue y = told("rule refuse 9;" + THREE);
        is(y, "one less ahead of one more", y.lever(1, 2), 8);
        not(y, "n 0", y.lever(0, 0), 1);
        not(y, "n 31", y.lever(31, 0), 1);
        not(y, "what 3", y.lever(1, 3), 1);
        not(y, "what -1", y.lever(1, -1), 1);
    }

    private static void queues() {
        promise = 29;
        HomesQueue x = told("rule local 1;home a 1 1;house p 3 2 1 5;house q 2 2 0 9;house r 2 2 0 7;house s 2 2 0 7;house t 4 1 0 300;");
        int[] order = {2, 3, 1, 0, 4};
        for (int i = 0; i < 5; i++) {
            is(x, "queue(" + i + ")", x.queue(i), order[i]);
        }
        not(x, "queue(5)", x.queue(5), 5);
        not(x, "queue(-1)", x.queue(-1), 1);
        not(x, "queue(MAX)", x.queue(MAX), 5);
        x.leave(3);
        is(x, "queue(1)", x.queue(1), 1);
        not(x, "queue(4)", x.queue(4), 5);
    }

    private static void gifts() {
        promise = 30;
        HomesQueue x = told("rule refuse 1;home a 1 0;home b 1 0;home c 1 0;house p 1 1 0 0;house q 1 1 0 0 a;house r 1 1 0 0 a b;house s 1 1 0 0 a;");
        is(x, "three of four", x.most(), 3);
        promise = 31;
        is(x, "p leaves a and b", x.gift(0), 2);
        is(x, "q", x.gift(1), 0);
        is(x, "r", x.gift(2), 1);
        not(x, "s: none is behind all HOMES, so q has a", x.gift(3), 5);
        not(x, "HOUSE 4", x.gift(4), 2);
        not(x, "HOUSE -1", x.gift(-1), 2);
        x.shut(0, true);
        promise = 30;
        is(x, "a is SHUT", x.most(), 2);
        promise = 31;
        is(x, "p", x.gift(0), 2);
        not(x, "q", x.gift(1), 5);
        x.bid(1, 1);
        x.shut(0, false);
        x.week();
        promise = 30;
        x.leave(0);
        is(x, "q is BARRED, p OUT", x.most(), 2);
        promise = 31;
        not(x, "q", x.gift(1), 5);
        is(x, "r", x.gift(2), 1);
        is(x, "s", x.gift(3), 0);
        promise = 30;
        is(told("home a 4 0;house p 1 1 0 0;"), "it does not FIT", told("home a 4 0;house p 1 1 0 0;").most(), 0);
    }

    private static void tradeRounds() {
        promise = 32;
        HomesQueue x = told(ROUND);
        int[] got = {1, 2, 0, 3};
        for (int i = 0; i < 4; i++) {
            is(x, "trade(" + i + ")", x.trade(i), got[i]);
        }
        promise = 33;
        is(x, "HOUSES with another HOME", x.trades(0), 3);
        is(x, "circles of two or more", x.trades(1), 1);
        is(x, "the greatest circle", x.trades(2), 3);
        x.unwish(0, 1);
        x.wish(0, 4);
        promise = 32;
        is(x, "nobody lives in e: its own", x.trade(0), 0);
        is(x, "q gets its own, as r has", x.trade(1), 1);
        promise = 33;
        is(x, "nobody moves", x.trades(0), 0);
        is(x, "no circle", x.trades(1), 0);
        is(x, "one by itself", x.trades(2), 1);
        HomesQueue y = told("home a 1 0;home b 1 0;home c 2 0;home d 1 0;house n 1 1 0 0;house p 1 1 0 0 in a c b;"
                + "house q 1 1 0 0 in b a;house r 1 2 0 0 in c a;house s 1 1 0 0 in d d a;");
        promise = 32;
        // p looks at c first, r at itself (a does not FIT it): r goes, then p and q trade.
        int[] then = {NONE, 1, 0, 2, 3};
        not(y, "it lives in none", y.trade(0), 5);
        for (int i = 1; i < 5; i++) {
            is(y, "trade(" + i + ")", y.trade(i), then[i]);
        }
        not(y, "HOUSE 5", y.trade(5), 2);
        not(y, "HOUSE -1", y.trade(-1), 2);
        promise = 33;
        is(y, "HOUSES with another HOME", y.trades(0), 2);
        is(y, "the greatest circle", y.trades(2), 2);
        not(y, "what 3", y.trades(3), 1);
        not(y, "what -1", y.trades(-1), 1);
        promise = 32;
        HomesQueue z = told("home a 1 0;home b 1 0;house p 1 1 0 0 a;house q 1 1 0 0 in b a;");
        z.bid(0, 0);
        z.week();
        z.wish(0, 1);
        is(z, "also those that are OUT: p looks at its own, a", z.trade(0), 0);
        z.unwish(0, 0);
        is(z, "p, who is OUT, trades", z.trade(0), 1);
        is(z, "q trades", z.trade(1), 0);
        promise = 33;
        is(new HomesQueue(), "without any HOUSE", new HomesQueue().trades(2), 0);
    }

    private static void longestRows() {
        promise = 34;
        HomesQueue x = told("home a 1 0;home b 1 0;home c 1 0;home d 1 0;house p 1 1 0 0 in c b;"
                + "house q 1 1 0 0 in d c;house r 1 1 0 0 d c;house s 1 1 0 0 a;");
        is(x, "b to p, c to q, d to r", x.longest(NONE, false), 3);
        is(x, "as many with ofHome", x.longest(NONE, true), 3);
        for (int k = 0; k < 3; k++) {
            is(x, "who makes move " + k, x.longest(k, false), k);
            is(x, "the HOME of move " + k, x.longest(k, true), k + 1);
        }
        not(x, "move 3", x.longest(3, false), 5);
        not(x, "move 3", x.longest(3, true), 5);
        not(x, "k -2", x.longest(-2, false), 1);
        not(x, "k MIN", x.longest(MIN, true), 1);
        x.leave(1);
        is(x, "b to p, c to r", x.longest(1, false), 2);
        x.leave(2);
        is(x, "one move: the first FREE HOME", x.longest(0, true), 0);
        is(x, "by s", x.longest(0, false), 3);
        HomesQueue none = new HomesQueue();
        is(none, "no moves", none.longest(NONE, false), 0);
        not(none, "no moves", none.longest(0, false), 5);
        // Eight who live in a HOME, two FREE ones: 8 moves, by numbers.
        StringBuilder b = new StringBuilder(many("home ", 10, " 2 0;"));
        for (int i = 0; i < 8; i++) {
            b.append("house p").append((char) ('a' + i)).append(" 1 2 0 0 in ").append((char) ('a' + i)).append(';');
        }
        HomesQueue y = told(b.toString());
        is(y, "8 moves", y.longest(NONE, false), 8);
        for (int k = 0; k < 8; k++) {
            is(y, "who makes move " + k, y.longest(k, false), k);
            is(y, "the HOME of move " + k, y.longest(k, true), k == 0 ? 8 : k - 1);
        }
    }

    private static void gaps() {
        promise = 35;
        HomesQueue x = told("rule refuse 1;home a 1 0;home b 1 0;home c 4 0;house p 4 1 0 500;house q 2 1 0 100;house r 1 1 0 900;"
                + "house s 3 1 0 100 b;");
        is(x, "nobody BIDS", x.gap(0, 0), 0);
        x.bid(1, 0);
        is(x, "p needs BAND 1, as q has the lesser DAY", x.gap(0, 0), 3);
        is(x, "q is the first", x.gap(1, 0), 0);
        is(x, "s, alike in DAY, has the greater number: BAND 1", x.gap(3, 0), 2);
        x.unbid(1, 0);
        x.bid(2, 0);
        is(x, "p needs BAND 1", x.gap(0, 0), 3);
        is(x, "q needs BAND 1", x.gap(1, 0), 1);
        x.bid(3, 0);
        is(x, "its own BID is no bar", x.gap(3, 0), 2);
        not(x, "it does not FIT", x.gap(0, 2), 5);
        x.unbid(2, 0);
        x.week();
        not(x, "BARRED", x.gap(3, 0), 5);
        x.leave(0);
        not(x, "OUT", x.gap(0, 0), 5);
        not(x, "no such HOUSE", x.gap(4, 0), 2);
        not(x, "no such HOME", x.gap(1, 3), 2);
        HomesQueue y = told("home a 1 0;house p 2 1 0 500;house q 1 1 0 100;");
        y.bid(1, 0);
        not(y, "not with BAND NOW 1", y.gap(0, 0), 5);
    }

    private static void bidding() {
        promise = 36;
        HomesQueue x = told(THREE);
        is(x, "bid", x.bid(0, 1), 1);
        is(x, "bid", x.bid(0, 0), 2);
        not(x, "BIDS already", x.bid(0, 0), 7);
        not(x, "not FREE", x.bid(1, 2), 7);
        not(x, "no such HOUSE", x.bid(3, 0), 2);
        not(x, "no such HOME", x.bid(0, 3), 2);
        is(x, "ACTS", x.many(7), 2);
        promise = 37;
        is(x, "unbid", x.unbid(0, 1), 1);
        is(x, "it is gone", x.bids(0, 1), 0);
        not(x, "none for that", x.unbid(0, 1), 5);
        not(x, "no such HOUSE", x.unbid(-1, 0), 2);
        not(x, "no such HOME", x.unbid(0, -1), 2);
        is(x, "ACTS", x.many(7), 3);
        promise = 38;
        HomesQueue y = told("home a 1 0;home b 1 0;home c 1 0;home d 2 0;house p 1 1 0 0;house q 1 1 0 0 c d b;"
                + "house r 1 2 0 0 a d;house s 1 1 0 0 a b;");
        y.bid(3, 3);
        is(y, "two of p, two of q, one of r, one more of s", y.auto(), 6);
        int[] bits = {1 + 2, 4 + 8, 8, 1 + 8};
        for (int i = 0; i < 4; i++) {
            int got = 0;
            for (int h = 0; h < 4; h++) {
                got += y.bids(i, h) << h;
            }
            due("BIDS of " + i, got, bits[i]);
        }
        not(y, "none more", y.auto(), 4);
        is(y, "ACTS", y.many(7), 2);
    }

    private static void weekEnds() {
        promise = 39;
        HomesQueue x = told("rule refuse 2;rule bar 2;home a 1 0;home b 1 0;home c 1 0;house p 1 1 0 0 c;house q 2 1 0 0 a;house r 4 1 0 0;");
        x.bid(0, 0);
        x.bid(0, 1);
        x.bid(1, 1);
        x.bid(2, 0);
        // a: p REFUSES, r TAKES it; b: p REFUSES and is BARRED, q REFUSES.
        is(x, "one LET", x.week(), 1);
        is(x, "r has a", x.home(0, 2), 2);
        is(x, "by the second OFFER", x.let(0, 6), 2);
        is(x, "OFFERS", x.many(9), 4);
        is(x, "BIDS are gone", x.many(4), 0);
        is(x, "WEEK", x.many(2), 1);
        is(x, "p is BARRED", x.house(0, 7), 2);
        is(x, "q has a REFUSAL", x.house(1, 6), 1);
        is(x, "p, who REFUSED it and BIDS, is PASSED OVER", x.house(0, 11), 1);
        x.week();
        is(x, "p is BARRED", x.house(0, 7), 1);
        x.week();
        is(x, "p is BARRED no more", x.house(0, 7), 0);
        is(x, "p may BID", x.why(0, 2), 0);
        // BARRED for what is left of the WEEK: b is not offered to p any more.
        HomesQueue y = told("rule refuse 1;home a 1 0;home b 1 0;house p 1 1 0 0 b;house q 4 1 0 0;");
        y.bid(0, 0);
        y.bid(0, 1);
        y.bid(1, 1);
        is(y, "q TAKES b", y.week(), 1);
        is(y, "p was offered a alone", y.many(9), 2);
        is(y, "p, BARRED by then, is not PASSED OVER", y.tally(4), 0);
        is(y, "BARRED for BAR WEEKS behind this one", y.house(0, 7), 4);
        // OUT by then: p TOOK a, so b goes to q, and p is not PASSED OVER.
        HomesQueue z = told("home a 1 0;home b 1 0;home c 1 0;house p 1 1 0 0 in c;house q 4 1 0 0;");
        z.bid(0, 0);
        z.bid(0, 1);
        z.bid(1, 1);
        is(z, "two LETS", z.week(), 2);
        is(z, "no OFFER to who is OUT", z.many(9), 2);
        is(z, "no PASSED OVER", z.tally(4), 0);
        is(z, "c is FREE from the next WEEK on", z.home(2, 3), 1);
        is(z, "c had no WEEK as FREE", z.home(2, 7), 0);
        is(z, "p lives in a", z.house(0, 5), 0);
        is(z, "p is OUT", z.house(0, 8), 1);
        // A LOCAL TURN is asked anew for each HOME, with LETS so far.
        HomesQueue v = told("rule local 2;home a 1 3;home b 1 3;house p 1 1 0 0;house q 2 1 0 0;house r 4 1 3 0;");
        v.auto();
        v.week();
        is(v, "p gets a", v.let(0, 0), 0);
        is(v, "r gets b by a LOCAL TURN", v.let(1, 0), 2);
        is(v, "let(1, 4)", v.let(1, 4), 1);
        is(v, "q is PASSED OVER", v.house(1, 11), 1);
        // WEEK 999 is beyond the 512 calls that are promised; what the document says of it is tried still.
        HomesQueue late = new HomesQueue();
        for (int i = 0; i < 999; i++) {
            late.week();
        }
        is(late, "WEEK 999", late.many(2), 999);
        not(late, "it does not end", late.week(), 3);
    }

    private static void wishing() {
        promise = 40;
        HomesQueue x = told(many("home ", 8, " 1 0;") + "house p 1 1 0 0 a b;");
        is(x, "wish", x.wish(0, 5), 3);
        is(x, "it comes behind", x.house(0, 22), 5);
        not(x, "it is one", x.wish(0, 0), 4);
        x.wish(0, 6);
        x.wish(0, 7);
        is(x, "the sixth", x.wish(0, 2), 6);
        not(x, "a seventh", x.wish(0, 3), 3);
        not(x, "4 ahead of 3", x.wish(0, 2), 4);
        not(x, "no such HOUSE", x.wish(1, 0), 2);
        not(x, "no such HOME", x.wish(0, 8), 2);
        promise = 41;
        x.bid(0, 0);
        is(x, "unwish", x.unwish(0, 0), 5);
        is(x, "its BIDS stay", x.bids(0, 0), 1);
        int[] left = {1, 5, 6, 7, 2};
        for (int k = 0; k < 5; k++) {
            is(x, "WISH " + k, x.house(0, 20 + k), left[k]);
        }
        not(x, "it is none", x.unwish(0, 0), 5);
        not(x, "no such HOUSE", x.unwish(1, 0), 2);
        not(x, "no such HOME", x.unwish(0, 8), 2);
        x.week();
        is(x, "it REFUSED what is no WISH now", x.many(8), 1);
    }

    private static void leaving() {
        promise = 42;
        HomesQueue x = told(THREE);
        x.bid(2, 0);
        is(x, "leave", x.leave(2), 2);
        is(x, "its BIDS are gone", x.many(4), 0);
        not(x, "it lives in none", x.house(2, 5), 5);
        not(x, "nobody lives there", x.home(2, 2), 5);
        is(x, "it is OUT", x.house(2, 8), 1);
        is(x, "not FREE in this WEEK", x.many(5), 2);
        not(x, "it is OUT", x.leave(2), 4);
        not(x, "no such HOUSE", x.leave(3), 2);
        not(x, "no such HOUSE", x.leave(-1), 2);
        x.week();
        is(x, "FREE then", x.many(5), 3);
        x.bid(1, 2);
        x.week();
        is(x, "CHAIN 1: it came free otherwise", x.let(0, 3), 1);
        not(x, "who TOOK a HOME is OUT", x.leave(1), 4);
    }

    private static void shutting() {
        promise = 43;
        HomesQueue x = told(THREE);
        x.bid(0, 0);
        x.bid(0, 1);
        is(x, "shut", x.shut(0, true), 1);
        is(x, "BIDS for it are gone", x.bids(0, 0), 0);
        is(x, "others stay", x.bids(0, 1), 1);
        not(x, "so already", x.shut(0, true), 4);
        is(x, "no more", x.shut(0, false), 2);
        not(x, "so already", x.shut(0, false), 4);
        is(x, "one that is lived in", x.shut(2, true), 2);
        is(x, "who lives there stays", x.home(2, 2), 2);
        not(x, "no such HOME", x.shut(3, true), 2);
        not(x, "no such HOME", x.shut(-1, false), 2);
        x.leave(2);
        x.week();
        is(x, "left and SHUT", x.home(2, 3), 0);
        is(x, "FREE then, as a is, and b not", x.shut(2, false), 2);
    }

    private static void needing() {
        promise = 44;
        HomesQueue x = told(THREE);
        x.bid(0, 0);
        x.bid(0, 1);
        is(x, "what it was", x.need(0, 3), 2);
        is(x, "a does not FIT", x.bids(0, 0), 0);
        is(x, "b FITS", x.bids(0, 1), 1);
        is(x, "NEED", x.house(0, 2), 3);
        not(x, "so already", x.need(0, 3), 4);
        not(x, "NEED 0", x.need(0, 0), 1);
        not(x, "NEED 5", x.need(0, 5), 1);
        not(x, "no such HOUSE", x.need(3, 1), 2);
        not(x, "1 ahead of 2", x.need(3, 0), 1);
    }

    private static void ruling() {
        promise = 45;
        HomesQueue x = new HomesQueue();
        int[] least = {1, 1, 0, 0, 1, 1};
        int[] most = {9, 52, 9, 100, 999, 3};
        int[] untold = {3, 4, 0, 0, 999, 2};
        for (int i = 0; i < 6; i++) {
            not(x, "below the least", x.rules(i, least[i] - 1), 1);
            not(x, "above the most", x.rules(i, most[i] + 1), 1);
            not(x, "so already", x.rules(i, untold[i]), 4);
            int other = untold[i] == most[i] ? least[i] : most[i];
            is(x, "what it was", x.rules(i, other), untold[i]);
            is(x, "rule(" + i + ")", x.rule(i), other);
        }
        not(x, "what 6", x.rules(6, 1), 1);
        not(x, "what -1", x.rules(-1, 1), 1);
        is(x, "ACTS", x.many(7), 6);
    }

    private static void undoing() {
        promise = 46;
        HomesQueue x = told("rule refuse 1;" + THREE);
        not(x, "none", x.undo(), 5);
        String before = printed(x);
        x.bid(0, 0);
        x.unbid(0, 0);
        x.auto();
        x.bid(2, 0);
        x.week();
        x.wish(1, 2);
        x.unwish(1, 2);
        x.leave(2);
        x.rules(5, 3);
        x.shut(2, true);
        x.need(1, 1);
        is(x, "ACTS", x.many(7), 11);
        for (int i = 10; i >= 0; i--) {
            is(x, "undo()", x.undo(), i);
        }
        not(x, "none more", x.undo(), 5);
        duePrinted(x, before);
        int[] first = {3, 3, 0, 0, 0, 2, 3, 0, 0, 0};
        for (int i = 0; i < 10; i++) {
            is(x, "many(" + i + ")", x.many(i), first[i]);
        }
        for (int i = 0; i < 7; i++) {
            x.bid(0, 0);
            x.unbid(0, 0);
        }
        is(x, "12 are kept", x.many(7), 12);
        for (int i = 11; i >= 0; i--) {
            is(x, "undo()", x.undo(), i);
        }
        not(x, "the first two are not", x.undo(), 5);
        is(x, "so the BID behind two ACTS is gone", x.bids(0, 0), 0);
        x.bid(0, 0);
        for (int i = 0; i < 6; i++) {
            x.bid(0, 1);
            x.unbid(0, 1);
        }
        not(x, "an act that is none keeps the oldest", x.bid(0, 0), 7);
        x.auto();
        not(x, "an auto() that is none keeps the oldest", x.auto(), 4);
        for (int i = 0; i < 12; i++) {
            x.undo();
        }
        is(x, "the BID ahead of 12 ACTS stays", x.bids(0, 0), 1);
    }

    private static void printing() {
        String rules = "rule refuse 3;rule bar 4;rule local 0;rule quota 0;rule age 999;rule bids 2;";
        promise = 47;
        HomesQueue x = new HomesQueue();
        is(x, "print()", x.print(), 76);
        duePrinted(x, rules);
        HomesQueue y = told(THREE + "home abcdefgh 4 7;house zzzzzzzz 4 4 7 007 in abcdefgh a c abcdefgh;rule quota 100;rule bar 52;");
        String told = "rule refuse 3;rule bar 52;rule local 0;rule quota 100;rule age 999;rule bids 2;"
                + "home a 2 1;home b 3 1;home c 2 2;home abcdefgh 4 7;house p 2 2 1 100 a b;house q 1 2 2 50;"
                + "house r 3 2 1 200 in c b;house zzzzzzzz 4 4 7 7 in abcdefgh a c abcdefgh;";
        duePrinted(y, told);
        is(y, "how many bytes", y.print(), told.length());
        y.shut(3, true);
        y.need(1, 1);
        y.bid(0, 1);
        y.week();
        // p is OUT and lives in b; abcdefgh is SHUT.
        duePrinted(y, "rule refuse 3;rule bar 52;rule local 0;rule quota 100;rule age 999;rule bids 2;"
                + "home a 2 1;home c 2 2;house q 1 1 2 50;house r 3 2 1 200 in c;house zzzzzzzz 4 4 7 7 a c;");
        HomesQueue z = told(printed(y));
        due("a TEXT again", printed(z).equals(printed(y)) ? 1 : 0, 1);
        promise = 48;
        HomesQueue v = new HomesQueue();
        due("there is none yet", outOrThrow(v, 0), -2);
        v.print();
        due("out(0)", outOrThrow(v, 0), 'r');
        due("out(75)", outOrThrow(v, 75), ';');
        due("out(76)", outOrThrow(v, 76), -2);
        due("out(-1)", outOrThrow(v, -1), -2);
        due("out(MIN)", outOrThrow(v, MIN), -2);
        due("out(MAX)", outOrThrow(v, MAX), -2);
        v.rules(0, 9);
        v.load(0);
        due("OUT stays", outOrThrow(v, 12), '3');
        promise = 47;
        widestPrint();
    }

    /** OUT may be longer than a TEXT can be. */
    private static void widestPrint() {
        StringBuilder b = new StringBuilder();
        for (int i = 0; i < 10; i++) {
            b.append("home hhhhhhh").append((char) ('a' + i)).append(" 1 0;");
        }
        for (int i = 0; i < 8; i++) {
            b.append("house ppppppp").append((char) ('a' + i)).append(" 1 1 0 999 in hhhhhhh").append((char) ('a' + i)).append(";");
        }
        HomesQueue x = told(b.toString());
        for (int i = 0; i < 8; i++) {
            for (int k = 0; k < 6; k++) {
                x.wish(i, k);
            }
        }
        x.rules(1, 52);
        x.rules(3, 100);
        is(x, "print()", x.print(), 79 + 10 * 18 + 8 * 91);
        due("the last byte", outOrThrow(x, 79 + 180 + 728 - 1), ';');
        due("behind it", outOrThrow(x, 79 + 180 + 728), -2);
    }
}
