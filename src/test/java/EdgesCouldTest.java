/** The edges of what could be (==== 3.), and of the promises 19 to 35. */
public final class EdgesCouldTest {
    private static final int NONE = Edges.NONE;
    private static final int[] NO_HOUSE = {-1, 4, 8, Edges.MIN, Edges.MAX};
    private static final int[] NO_HOME = {-1, 4, 10, Edges.MIN, Edges.MAX};

    // Of four HOUSES q is BARRED, r has TAKEN a, s lives in d; b and c are FREE, c is too great but for s.
    private static final Edges.Making FOUR = () -> {
        HomesQueue x = Edges.told("rule refuse 1;rule bar 9;home a 1 0;home b 1 1;home c 3 0;home d 2 1;"
                + "house p 2 1 1 500 b;house q 1 1 0 500 d b;house r 3 1 0 500;house s 4 2 0 600 in d c;");
        Edges.bid(x, 1, 0);
        Edges.bid(x, 2, 0);
        x.week();
        Edges.bid(x, 0, 1);
        return x;
    };

    // Each moves into the HOME ahead of its own, WEEK by WEEK.
    private static final String CHAIN = "home a 1 0;home b 1 1;home c 1 2;"
            + "house n 1 1 0 500 in b a;house o 1 1 0 500 in c b;house p 2 1 2 505 c;";

    public static void main(String[] args) throws Exception {
        Edges.begin();
        asTheyWould();
        weeksAhead();
        whens();
        tips();
        woulds();
        tops();
        lots();
        fitsAndWards();
        envies();
        levers();
        queues();
        gifts();
        tradeRounds();
        longestRows();
        gaps();
        Edges.end("EdgesCouldTest", 19, 35);
    }

    private static void is(HomesQueue x, String call, int got, int want) {
        Edges.is(x, call, got, want);
    }

    private static void not(HomesQueue x, String call, int got, int status) {
        Edges.not(x, call, got, status);
    }

    private interface OfHouseAndHome {
        int on(HomesQueue x, int house, int home);
    }

    private static void noSuch(String name, OfHouseAndHome call) {
        for (int house : NO_HOUSE) {
            Edges.refused(FOUR, name + " of HOUSE " + house, 2, x -> call.on(x, house, 1));
        }
        for (int home : NO_HOME) {
            Edges.refused(FOUR, name + " of HOME " + home, 2, x -> call.on(x, 0, home));
            // No such HOME is told ahead of what holds of the HOUSE.
            Edges.refused(FOUR, name + " of one that is OUT", 2, x -> call.on(x, 2, home));
        }
    }

    private static void asTheyWould() {
        Edges.edge(0, "by its WISHES (without any: by numbers), till it may no more.", () -> {
            for (int rule = 1; rule <= 3; rule++) {
                HomesQueue x = Edges.told("rule bids " + rule + ";" + Edges.lines("home ", 5, " 1 0;")
                        + "house p 1 1 0 500;house q 1 1 0 500 e c a;house r 1 1 0 500 b;house s 1 4 0 500;");
                int[] free = {0, 1, 1 + 2, 1 + 2 + 4};
                int[] wished = {0, 16, 16 + 4, 16 + 4 + 1};
                is(x, "auto()", x.auto(), 2 * rule + 1);
                is(x, "p, by numbers", Edges.bidBits(x, 0), free[rule]);
                is(x, "q, by WISHES", Edges.bidBits(x, 1), wished[rule]);
                is(x, "r has one WISH", Edges.bidBits(x, 2), 2);
                is(x, "none FITS s", Edges.bidBits(x, 3), 0);
            }
            // HOMES it may not BID for are left out; BIDS it has count.
            HomesQueue y = Edges.told("home a 2 0;home b 1 0;home c 3 0;home d 2 0;home e 1 0;house o 1 1 0 500 in e;"
                    + "house p 1 1 0 500 c e b a d;");
            y.shut(1, true);
            Edges.bid(y, 0, 0);
            is(y, "auto()", y.auto(), 3);
            is(y, "o: a, d", Edges.bidBits(y, 0), 1 + 8);
            is(y, "p: a, d", Edges.bidBits(y, 1), 1 + 8);
        });
        Edges.edge(0, "AHEAD for n WEEKS: BIDS as they are, and in each of these WEEKS (this one, too) all BID AS THEY"
                + " WOULD besides.", () -> {
            HomesQueue x = Edges.told("rule bids 1;home a 1 0;home b 1 0;house p 1 1 0 500 a;house q 2 1 0 500 b;");
            is(x, "this one, too", x.weeks(1, 0), 2);
            Edges.bid(x, 0, 1);
            is(x, "p BIDS for b as it is, and no more", x.weeks(1, 0), 1);
            is(x, "it REFUSES b", x.weeks(1, 1), 1);
            is(x, "a in the next", x.weeks(2, 0), 2);
            is(x, "p has a in WEEK 1", x.when(0, 2, false), 1);
            is(x, "its BIDS are as they were", Edges.bidBits(x, 0), 2);
        });
    }

    private static void weeksAhead() {
        Edges.edge(19, "AHEAD for n WEEKS (0 to 30)", () -> {
            HomesQueue x = Edges.told(CHAIN);
            int[][] due = {{0, 0, 1, 3, 0, 0}, {1, 0, 1, 2, 1, 0}, {2, 0, 1, 1, 2, 0}, {3, 0, 0, 0, 3, 0}};
            for (int n = 0; n < 4; n++) {
                for (int what = 0; what < 6; what++) {
                    is(x, "weeks(" + n + ", " + what + ")", x.weeks(n, what), due[n][what]);
                }
            }
            // It is BARRED for 28 WEEKS behind WEEK 0, so its HOME is TAKEN in WEEK 29, the 30th.
            HomesQueue y = Edges.told("rule refuse 1;rule bar 28;rule bids 1;home a 1 0;home b 1 0;house p 1 1 0 500 b;");
            Edges.bid(y, 0, 0);
            is(y, "weeks(28, 0)", y.weeks(28, 0), 0);
            is(y, "weeks(29, 0)", y.weeks(29, 0), 0);
            is(y, "weeks(30, 0)", y.weeks(30, 0), 1);
            is(y, "weeks(0, 1)", y.weeks(0, 1), 0);
            is(y, "weeks(30, 1)", y.weeks(30, 1), 1);
            for (int n : new int[] {-1, 31, Edges.MIN, Edges.MAX}) {
                for (int what = 0; what < 6; what++) {
                    int w = what;
                    Edges.refused(FOUR, "weeks(" + n + ", " + what + ")", 1, z -> z.weeks(n, w));
                }
            }
        });
        Edges.edge(19, "5: PASSED OVER more (1).", () -> {
            for (int what : new int[] {-1, 6, Edges.MIN, Edges.MAX}) {
                Edges.refused(FOUR, "weeks(1, " + what + ")", 1, x -> x.weeks(1, what));
                Edges.refused(FOUR, "weeks(0, " + what + ")", 1, x -> x.weeks(0, what));
            }
            HomesQueue x = FOUR.make();
            Edges.due("weeks() changes nothing", Edges.picture(afterAll(x)), Edges.picture(FOUR.make()));
        });
        Edges.edge(19, "2: FREE HOMES then, 3: HOUSES not OUT then, 4: the greatest CHAIN then", () -> {
            HomesQueue x = Edges.told(CHAIN);
            x.leave(0);
            is(x, "b was left in this WEEK", x.weeks(0, 2), 1);
            is(x, "n is OUT", x.weeks(0, 3), 2);
            is(x, "o can't BID for b yet", x.weeks(1, 0), 0);
            is(x, "a and b", x.weeks(1, 2), 2);
            HomesQueue y = Edges.told(CHAIN);
            y.auto();
            y.week();
            is(y, "b came free by a LET of CHAIN 1", y.weeks(1, 4), 2);
            is(y, "c by one of CHAIN 2", y.weeks(2, 4), 3);
            is(y, "all of n, o, p", y.weeks(2, 3), 0);
            HomesQueue none = new HomesQueue();
            for (int what = 0; what < 6; what++) {
                is(none, "of nothing", none.weeks(30, what), 0);
            }
        });
        Edges.edge(19, "PASSED OVER more", () -> {
            HomesQueue x = Edges.told("rule local 1;home a 1 1;home b 1 1;home c 1 0;house p 1 1 0 500;house q 2 1 1 500;"
                    + "house r 2 1 1 500;");
            is(x, "p, by q and by r", x.weeks(1, 5), 2);
            Edges.bid(x, 0, 0);
            Edges.bid(x, 1, 0);
            x.week();
            is(x, "one there is", x.tally(4), 1);
            is(x, "none more in no WEEK", x.weeks(0, 5), 0);
            is(x, "one more, by r", x.weeks(1, 5), 1);
        });
        Edges.edge(19, "what 0: LETS more, 1: REFUSALS more", () -> {
            HomesQueue x = FOUR.make();
            is(x, "a LET there is does not count", x.weeks(0, 0), 0);
            is(x, "a REFUSAL there is does not count", x.weeks(0, 1), 0);
            is(x, "the greatest CHAIN counts those", x.weeks(0, 4), 1);
            is(x, "two LETS", x.weeks(1, 0), 2);
        });
    }

    private static HomesQueue afterAll(HomesQueue x) {
        for (int what = 0; what < 6; what++) {
            x.weeks(30, what);
        }
        x.when(0, 30, true);
        x.would(0, 1);
        x.lever(30, 0);
        x.gift(0);
        x.trade(3);
        x.longest(0, true);
        return x;
    }

    private static void whens() {
        Edges.edge(20, "within n WEEKS (1 to 30)", () -> {
            HomesQueue x = Edges.told(CHAIN);
            not(x, "p, 2", x.when(2, 2, false), 5);
            is(x, "p, 3", x.when(2, 3, false), 2);
            is(x, "p's HOME", x.when(2, 3, true), 2);
            is(x, "p, 30", x.when(2, 30, false), 2);
            is(x, "n, 1: WEEK 0", x.when(0, 1, false), 0);
            is(x, "n's HOME: HOME 0", x.when(0, 1, true), 0);
            Edges.weeks(x, 9);
            is(x, "the WEEK by number", x.when(2, 3, false), 11);
            HomesQueue y = Edges.told("rule refuse 1;rule bar 28;rule bids 1;home a 1 0;home b 1 0;house p 1 1 0 500 b;");
            Edges.bid(y, 0, 0);
            not(y, "when(0, 29)", y.when(0, 29, false), 5);
            is(y, "when(0, 30)", y.when(0, 30, false), 29);
            for (int n : new int[] {0, -1, 31, Edges.MIN, Edges.MAX}) {
                Edges.refused(FOUR, "when(0, " + n + ")", 1, z -> z.when(0, n, true));
                Edges.refused(FOUR, "1 ahead of 2", 1, z -> z.when(4, n, false));
                Edges.refused(FOUR, "1 ahead of 4", 1, z -> z.when(2, n, false));
            }
        });
        Edges.edge(20, "(1; 2; 4: it is OUT; 5: not within these)", () -> {
            for (int house : NO_HOUSE) {
                Edges.refused(FOUR, "when(" + house + ", 1)", 2, x -> x.when(house, 1, false));
            }
            Edges.refused(FOUR, "r TOOK a HOME", 4, x -> x.when(2, 30, false));
            Edges.refused(FOUR, "r TOOK a HOME", 4, x -> x.when(2, 1, true));
            Edges.refused(FOUR, "q is BARRED for longer", 5, x -> x.when(1, 9, false));
            Edges.refused(FOUR, "q, of HOME", 5, x -> x.when(1, 9, true));
            HomesQueue x = FOUR.make();
            x.leave(0);
            not(x, "p left", x.when(0, 1, false), 4);
        });
    }

    private static void tips() {
        Edges.edge(21, "The HOME of those for which a HOUSE may BID (or BIDS) and which it would TAKE", () -> {
            HomesQueue x = Edges.told("rule bids 1;home a 1 0;home b 1 0;home c 3 0;home d 1 0;house o 1 1 0 500 in d;"
                    + "house p 1 1 0 500 d c b;house q 1 1 0 500;");
            is(x, "d is not FREE, c does not FIT, a is no WISH", x.tip(1), 1);
            Edges.bid(x, 1, 1);
            is(x, "it BIDS for b already", x.tip(1), 1);
            x.unbid(1, 1);
            Edges.bid(x, 1, 0);
            not(x, "it may no more, and would not TAKE a", x.tip(1), 5);
            Edges.bid(x, 2, 1);
            is(x, "q BIDS for b and may no more", x.tip(2), 1);
        });
        Edges.edge(21, "for which the fewest others who BID go ahead of it by ORDER", () -> {
            HomesQueue x = Edges.told("rule bids 3;home a 1 0;home b 1 0;home c 1 0;house p 3 1 0 500 a b c;"
                    + "house q 2 1 0 500;house r 2 1 0 500;house s 4 1 0 500;");
            Edges.bid(x, 1, 0, 1);
            Edges.bid(x, 2, 0);
            Edges.bid(x, 3, 0, 1, 2);
            is(x, "2, 1, 0 ahead; s goes behind", x.tip(0), 2);
            x.shut(2, true);
            is(x, "2, 1 ahead", x.tip(0), 1);
            Edges.bid(x, 0, 0);
            is(x, "its own BID is no other's", x.tip(0), 1);
        });
        Edges.edge(21, "of several the dearest WISH (without WISHES: the lesser number) (2; 5: none)", () -> {
            HomesQueue x = Edges.told("home a 1 0;home b 1 0;home c 1 0;house p 1 1 0 500 c b a;house q 1 1 0 500;");
            is(x, "the dearest", x.tip(0), 2);
            is(x, "the lesser number", x.tip(1), 0);
            for (int house : NO_HOUSE) {
                Edges.refused(FOUR, "tip(" + house + ")", 2, y -> y.tip(house));
            }
            Edges.refused(FOUR, "q is BARRED", 5, y -> y.tip(1));
            Edges.refused(FOUR, "r is OUT", 5, y -> y.tip(2));
            Edges.refused(() -> {
                HomesQueue y = FOUR.make();
                y.shut(2, true);
                return y;
            }, "s: none is FREE", 5, y -> y.tip(3));
            HomesQueue none = Edges.told("house p 1 1 0 500;");
            not(none, "no HOMES", none.tip(0), 5);
        });
    }

    private static void woulds() {
        Edges.edge(22, "1 if it TAKES it, 2 if it REFUSES it, 0 else", () -> {
            HomesQueue x = Edges.told("home a 1 0;home b 1 0;" + Edges.lines("house p", 3, " 1 1 0 500 b;")
                    + "house q 2 1 0 500;house r 3 1 0 500 b;");
            is(x, "q TAKES a", x.would(3, 0), 1);
            is(x, "r REFUSES a", x.would(4, 0), 2);
            Edges.bid(x, 0, 0);
            Edges.bid(x, 1, 0);
            is(x, "q by the third OFFER", x.would(3, 0), 1);
            is(x, "r by the third OFFER", x.would(4, 0), 2);
            Edges.bid(x, 2, 0);
            is(x, "q would be the fourth", x.would(3, 0), 0);
            is(x, "r would be the fourth", x.would(4, 0), 0);
            is(x, "pc is the third with a BID of its own", x.would(2, 0), 2);
            is(x, "pc would TAKE b", x.would(2, 1), 1);
        });
        Edges.edge(22, "If this WEEK ended with the BIDS there are", () -> {
            HomesQueue x = Edges.told("home a 1 0;home b 1 0;house p 2 1 0 500;house q 1 1 0 500;");
            is(x, "no BIDS: q does not BID as it would", x.would(0, 0), 1);
            Edges.bid(x, 1, 0, 1);
            is(x, "q TAKES a", x.would(0, 0), 0);
            is(x, "and is OUT by b", x.would(0, 1), 1);
            is(x, "the WEEK did not end", x.many(2) * 10 + x.many(4), 2);
        });
        Edges.edge(22, "and this HOUSE's BIDS were for a HOME alone", () -> {
            // With its BID for a it would be BARRED ahead of b, or OUT.
            HomesQueue x = Edges.told("rule refuse 1;home a 1 0;home b 1 0;home c 1 0;house p 1 1 0 500 b;house q 1 1 0 500;");
            Edges.bid(x, 0, 0, 2);
            Edges.bid(x, 1, 0);
            is(x, "p TAKES b", x.would(0, 1), 1);
            is(x, "q TAKES b", x.would(1, 1), 1);
            is(x, "q TAKES c: p is BARRED by then", x.would(1, 2), 1);
            is(x, "BIDS are as they were", Edges.bidBits(x, 0) * 10 + Edges.bidBits(x, 1), 51);
        });
        Edges.edge(22, "(2; 5: it is OUT, BARRED, the HOME is not FREE or does not FIT)", () -> {
            noSuch("would()", (x, house, home) -> x.would(house, home));
            Edges.refused(FOUR, "r is OUT", 5, x -> x.would(2, 1));
            Edges.refused(FOUR, "q is BARRED", 5, x -> x.would(1, 1));
            Edges.refused(FOUR, "d is lived in", 5, x -> x.would(0, 3));
            Edges.refused(FOUR, "its own", 5, x -> x.would(3, 3));
            Edges.refused(FOUR, "two ROOMS more", 5, x -> x.would(0, 2));
            Edges.refused(FOUR, "a ROOM less", 5, x -> x.would(3, 1));
            HomesQueue x = FOUR.make();
            is(x, "p", x.would(0, 1), 1);
            x.shut(1, true);
            not(x, "SHUT", x.would(0, 1), 5);
        });
    }

    private static void tops() {
        Edges.edge(23, "(whether it is FREE or not) (2; 5: none)", () -> {
            HomesQueue x = FOUR.make();
            is(x, "FREE", x.top(1), 0);
            x.shut(1, true);
            is(x, "SHUT", x.top(1), 0);
            for (int home : NO_HOME) {
                Edges.refused(FOUR, "top(" + home + ")", 2, y -> y.top(home));
            }
            Edges.refused(FOUR, "a: p would not TAKE it, q is BARRED, r is OUT, it does not FIT s", 5, y -> y.top(0));
            Edges.refused(FOUR, "d: q alone has it as a WISH", 5, y -> y.top(3));
            HomesQueue none = Edges.told("home a 1 0;");
            not(none, "no HOUSES", none.top(0), 5);
            HomesQueue z = Edges.told("home a 1 0;house p 4 1 0 500 in a;house q 1 1 0 500;");
            is(z, "one that is lived in", z.top(0), 1);
        });
    }

    private static void lots() {
        // 142 WEEKS (1,000 days), 1 (1 day), 1 (7 days), 2 (14 days), 1 (13 days): 147 numbers.
        String text = "home a 1 0;home b 3 0;house p 1 1 0 0;house q 1 1 0 999;house r 1 1 0 993;house s 1 1 0 986;"
                + "house t 1 1 0 987;";
        Edges.edge(0, "LOT of a HOME by a seed: x is 75 times the seed and 74, modulo 65,537", () -> {
            HomesQueue x = Edges.told(text);
            for (int seed : new int[] {0, 1, 2, 872, 873, 874, 65535, 65536, 30000}) {
                int number = (int) ((75L * seed + 74) % 65537 % 147);
                is(x, "lot(0, " + seed + ")", x.lot(0, seed), ownerOf(number));
            }
            // A number each: the first has the even ones. 872 is the last seed below 65,537; 873 wraps around to 12.
            HomesQueue y = Edges.told("home a 1 0;house p 1 1 0 999;house q 1 1 0 999;");
            int[] seeds = {0, 1, 872, 873, 874, 45437, 45438, 45439, 65535, 65536};
            for (int seed : seeds) {
                is(y, "lot(0, " + seed + ") of two", y.lot(0, seed), (int) ((75L * seed + 74) % 65537 % 2));
            }
            is(y, "x is 65,474", y.lot(0, 872), 0);
            is(y, "x is 12", y.lot(0, 873), 0);
            is(y, "x is 87", y.lot(0, 874), 1);
            is(y, "x is 0", y.lot(0, 45438), 0);
            is(y, "x is 65,536", y.lot(0, 65536), 0);
        });
        Edges.edge(0, "each HOUSE that could be given it (not OUT, not BARRED, it FITS, it would TAKE it) has as many"
                + " numbers", () -> {
            HomesQueue x = Edges.told("rule refuse 1;home a 1 0;home b 1 0;house n 1 2 0 999;house o 1 1 0 999 b;"
                    + "house p 1 1 0 999;house q 1 1 0 990;house r 1 1 0 990;house s 1 1 0 999 b;");
            Edges.bid(x, 1, 0);
            Edges.bid(x, 5, 1);
            x.leave(2);
            x.week();
            // a: n does not FIT, o is BARRED, p left, s is OUT; q and r have 2 numbers each, by 17 days.
            is(x, "74 modulo 4", x.lot(0, 0), 4);
            is(x, "149 modulo 4", x.lot(0, 1), 3);
            is(x, "224 modulo 4", x.lot(0, 2), 3);
            is(x, "299 modulo 4", x.lot(0, 3), 4);
            x.wish(3, 1);
            is(x, "q would not TAKE a", x.lot(0, 1), 4);
        });
        Edges.edge(0, "(WAITED by 7, rounded down; 1 at least); x modulo all of these falls on one", () -> {
            HomesQueue x = Edges.told(text);
            boolean[] seen = new boolean[147];
            for (int seed = 0; seed < 400; seed++) {
                int number = (75 * seed + 74) % 65537 % 147;
                if (!seen[number]) {
                    seen[number] = true;
                    is(x, "number " + number, x.lot(0, seed), ownerOf(number));
                }
            }
            HomesQueue one = Edges.told("home a 1 0;house o 1 2 0 0;house p 1 1 0 999;house q 1 2 0 0;");
            is(one, "one number in all", one.lot(0, 3), 1);
            HomesQueue y = Edges.told("home a 1 0;house p 1 1 0 999;house q 1 1 0 994;");
            is(y, "1 and 6 days: a number each; 74 falls on the first", y.lot(0, 0), 0);
            is(y, "149 falls on the second", y.lot(0, 1), 1);
            y.week();
            is(y, "8 and 13 days: still a number each", y.lot(0, 1), 1);
            y.week();
            is(y, "15 and 20 days: two each, 149 modulo 4 is 1", y.lot(0, 1), 0);
            is(y, "224 modulo 4 is 0", y.lot(0, 2), 0);
            is(y, "74 modulo 4 is 2", y.lot(0, 0), 1);
        });
        Edges.edge(24, "LOT of a HOME by a seed (0 to 65,536) (1; 2; 5: nobody could be given it)", () -> {
            for (int seed : new int[] {-1, 65537, Edges.MIN, Edges.MAX}) {
                Edges.refused(FOUR, "lot(1, " + seed + ")", 1, x -> x.lot(1, seed));
                Edges.refused(FOUR, "1 ahead of 2", 1, x -> x.lot(4, seed));
                Edges.refused(FOUR, "1 ahead of 5", 1, x -> x.lot(0, seed));
            }
            for (int home : NO_HOME) {
                Edges.refused(FOUR, "lot(" + home + ", 0)", 2, x -> x.lot(home, 0));
                Edges.refused(FOUR, "lot(" + home + ", 65536)", 2, x -> x.lot(home, 65536));
            }
            Edges.refused(FOUR, "lot(0, 0): OUT, BARRED, not TAKEN, not FIT", 5, x -> x.lot(0, 0));
            Edges.refused(FOUR, "lot(0, 65536)", 5, x -> x.lot(0, 65536));
            HomesQueue x = FOUR.make();
            is(x, "p alone, seed 0", x.lot(1, 0), 0);
            is(x, "p alone, seed 65536", x.lot(1, 65536), 0);
            is(x, "s alone", x.lot(2, 7), 3);
        });
    }

    private static int ownerOf(int number) {
        return number < 142 ? 0 : number < 143 ? 1 : number < 144 ? 2 : number < 146 ? 3 : 4;
    }

    private static void fitsAndWards() {
        Edges.edge(25, "all (what 0), those that are FREE (1), those that it would TAKE (2) (1; 2)", () -> {
            HomesQueue x = Edges.told(Edges.lines("home ", 10, " 1 0;") + "house p 1 1 0 500;house q 1 1 0 500 j a;"
                    + "house r 1 2 0 500;house s 1 1 0 500 in j;");
            is(x, "all ten", x.fits(0, 0), 1023);
            is(x, "FREE", x.fits(0, 1), 511);
            is(x, "without WISHES", x.fits(0, 2), 1023);
            is(x, "WISHES, FREE or not", x.fits(1, 2), 513);
            for (int what = 0; what < 3; what++) {
                is(x, "none FITS", x.fits(2, what), 0);
            }
            for (int what : new int[] {-1, 3, Edges.MIN, Edges.MAX}) {
                Edges.refused(FOUR, "fits(0, " + what + ")", 1, y -> y.fits(0, what));
                Edges.refused(FOUR, "1 ahead of 2", 1, y -> y.fits(4, what));
            }
            for (int house : NO_HOUSE) {
                for (int what = 0; what < 3; what++) {
                    int w = what;
                    Edges.refused(FOUR, "fits(" + house + ", " + what + ")", 2, y -> y.fits(house, w));
                }
            }
        });
        Edges.edge(26, "(may be below 0: STATUS tells) (5: no HOMES; all WARDS of HOMES count)", () -> {
            HomesQueue none = Edges.told("house p 1 1 3 500;");
            not(none, "no HOMES", none.ward(false), 5);
            not(none, "no HOMES", none.ward(true), 5);
            HomesQueue x = Edges.told("home a 1 7;home b 1 7;house p 1 1 3 500;");
            is(x, "WARD 3 has no HOMES", x.ward(false), 7);
            is(x, "by -2", x.ward(true), -2);
            x.shut(0, true);
            is(x, "by -1, with STATUS 0", x.ward(true), NONE);
            x.shut(1, true);
            is(x, "WARDS of HOMES that are SHUT count", x.ward(false), 7);
            is(x, "by 0", x.ward(true), 0);
            HomesQueue y = Edges.told("home a 1 0;house p 1 1 0 500 in a;house q 1 1 0 500;");
            is(y, "WARD 0", y.ward(false), 0);
            is(y, "by 2: a is lived in", y.ward(true), 2);
            y.leave(0);
            is(y, "by 1: p is OUT", y.ward(true), 1);
        });
        Edges.edge(26, "are most above its FREE HOMES, of several the least", () -> {
            HomesQueue x = Edges.told("home a 1 5;home b 1 2;home c 1 4;house p 1 1 5 500;house q 1 1 2 500;");
            is(x, "WARDS 5 and 2 by 0", x.ward(false), 2);
            x.leave(1);
            is(x, "WARD 5 by 0", x.ward(false), 5);
            x.leave(0);
            is(x, "all by -1", x.ward(false), 2);
            is(x, "by -1, with STATUS 0", x.ward(true), NONE);
        });
    }

    private static void envies() {
        Edges.edge(0, "that FITS it, is a WISH of it, and its own is none, or a less dear one", () -> {
            String[] wishesOfP = {" b", " b a", " a b", "", " c", " c b a"};
            int[] due = {1, 1, 0, 0, 0, 1};
            for (int i = 0; i < due.length; i++) {
                HomesQueue x = Edges.told("home a 1 0;home b 1 0;home c 1 0;house p 1 1 0 500 in a" + wishesOfP[i]
                        + ";house q 1 1 0 500 in b a;");
                is(x, "WISHES of p" + wishesOfP[i], x.envy(0), due[i]);
            }
            HomesQueue y = Edges.told("home a 1 0;home b 3 0;house p 1 2 0 500 in a b;house q 1 1 0 500 in b a;");
            is(y, "b FITS p, a FITS q", y.envy(0), 1);
            y.need(0, 1);
            is(y, "b does not FIT p", y.envy(0), 0);
        });
        Edges.edge(0, "ENVY: two HOUSES that both live in a HOME", () -> {
            HomesQueue x = Edges.told("home a 1 0;home b 1 0;house p 1 1 0 500 in a b;house q 1 1 0 500 b a;");
            is(x, "q lives in none", x.envy(0), 0);
            Edges.bid(x, 1, 1);
            x.week();
            x.unwish(1, 1);
            is(x, "q is OUT and lives in b", x.envy(0), 1);
            is(x, "p and q", x.envy(1) * 10 + x.envy(2), 1);
        });
        Edges.edge(27, "1: the lesser, 2: the greater number of the first couple (by these) (1; 5 of 1, 2: none)", () -> {
            HomesQueue x = Edges.told(Edges.lines("home ", 4, " 1 0;") + "house p 1 1 0 500 in a d;"
                    + "house q 1 1 0 500 in b d c;house r 1 1 0 500 in c b;house s 1 1 0 500 in d b a;");
            is(x, "p and s, q and r, q and s", x.envy(0), 3);
            is(x, "the lesser", x.envy(1), 0);
            is(x, "the greater", x.envy(2), 3);
            x.unwish(0, 3);
            is(x, "q and r, q and s", x.envy(0), 2);
            is(x, "q and r are the first", x.envy(1) * 10 + x.envy(2), 12);
            for (int what : new int[] {-1, 3, Edges.MIN, Edges.MAX}) {
                Edges.refused(FOUR, "envy(" + what + ")", 1, y -> y.envy(what));
            }
            HomesQueue none = FOUR.make();
            is(none, "none", none.envy(0), 0);
            Edges.refused(FOUR, "envy(1)", 5, y -> y.envy(1));
            Edges.refused(FOUR, "envy(2)", 5, y -> y.envy(2));
        });
    }

    private static void levers() {
        Edges.edge(0, "each one more and one less (as far as that could be told)", () -> {
            // Nothing comes of any of them, so the first that could be told is the answer.
            HomesQueue least = Edges.told("rule refuse 1;");
            is(least, "REFUSE 1 can't be less", least.lever(1, 1) * 10 + least.lever(1, 2), 2);
            is(least, "no LETS", least.lever(1, 0), 0);
            HomesQueue most = Edges.told("rule refuse 9;rule bids 3;rule age 999;");
            is(most, "REFUSE 9 can't be more", most.lever(1, 1) * 10 + most.lever(1, 2), 8);
            // BIDS 3 can't be more: four HOMES of four would be TAKEN if it could.
            HomesQueue x = Edges.told("rule bids 3;" + Edges.lines("home ", 4, " 1 0;") + Edges.lines("house p", 4, " 1 1 0 500;"));
            is(x, "three LETS with BIDS 3", x.lever(1, 0), 3);
            is(x, "by REFUSE 2", x.lever(1, 1) * 10 + x.lever(1, 2), 2);
            HomesQueue y = Edges.told("rule bids 2;" + Edges.lines("home ", 4, " 1 0;") + Edges.lines("house p", 4, " 1 1 0 500;"));
            is(y, "BIDS 2 can be more", y.lever(1, 1) * 10 + y.lever(1, 2), 53);
            is(y, "three LETS", y.lever(1, 0), 3);
            // BIDS 1 can't be less, LOCAL 0, QUOTA 0 neither, AGE 999 can't be more.
            HomesQueue z = Edges.told("rule refuse 1;rule bar 1;rule bids 1;home a 1 0;house p 1 1 0 500;");
            is(z, "REFUSE 2", z.lever(30, 1) * 10 + z.lever(30, 2), 2);
        });
        Edges.edge(0, "of several the first rule, one less ahead of one more", () -> {
            HomesQueue x = Edges.told("rule refuse 5;home a 1 0;house p 1 1 0 500;");
            is(x, "REFUSE, one less", x.lever(1, 1) * 10 + x.lever(1, 2), 4);
            is(x, "a LET", x.lever(1, 0), 1);
            // p REFUSES a in each WEEK and is BARRED behind the second; a BAR that is less lets it TAKE b in time.
            HomesQueue y = Edges.told("rule refuse 1;rule bar 3;rule bids 1;home a 1 0;home b 1 0;house p 1 1 0 500 b;");
            Edges.bid(y, 0, 0);
            is(y, "REFUSE 2 lets it in 2 WEEKS", y.lever(2, 1) * 10 + y.lever(2, 2), 2);
            y.rules(0, 9);
            is(y, "REFUSE 8 does, too", y.lever(2, 1) * 10 + y.lever(2, 2), 8);
        });
        Edges.edge(28, "LEVER for n WEEKS (1 to 30), what 0: LETS in these, 1: the rule (as rule()), 2: its number then"
                + " (1)", () -> {
            for (int n : new int[] {0, -1, 31, Edges.MIN, Edges.MAX}) {
                for (int what = 0; what < 3; what++) {
                    int w = what;
                    Edges.refused(FOUR, "lever(" + n + ", " + what + ")", 1, x -> x.lever(n, w));
                }
            }
            for (int what : new int[] {-1, 3, Edges.MIN, Edges.MAX}) {
                Edges.refused(FOUR, "lever(1, " + what + ")", 1, x -> x.lever(1, what));
            }
            // Behind BAR 29 it may BID again in WEEK 30, the 31st; behind BAR 28 in the 30th.
            HomesQueue x = Edges.told("rule refuse 1;rule bar 29;rule bids 1;home a 1 0;home b 1 0;house p 1 1 0 500 b;");
            Edges.bid(x, 0, 0);
            x.week();
            HomesQueue y = Edges.told("rule refuse 1;rule bar 29;rule bids 3;home a 1 0;home b 1 0;house p 1 1 0 500 b;");
            Edges.bid(y, 0, 0);
            is(y, "REFUSE 2: the 30 WEEKS have a LET", y.lever(30, 0), 1);
            is(y, "within 1 WEEK", y.lever(1, 0), 1);
            is(x, "BARRED for 29, none in 29", x.lever(29, 0), 0);
            is(x, "a LET in the 30th", x.lever(30, 0), 1);
            HomesQueue z = FOUR.make();
            is(z, "a LET there is does not count: p and s", z.lever(1, 0), 2);
            is(z, "rules are as they were", z.rule(0) * 10 + z.rule(1), 19);
        });
    }

    private static void queues() {
        Edges.edge(29, "(1: k below 0; 5: not so many)", () -> {
            HomesQueue x = FOUR.make();
            int[] queue = {1, 0, 3};
            for (int k = 0; k < 3; k++) {
                is(x, "queue(" + k + "), who is BARRED, too", x.queue(k), queue[k]);
            }
            for (int k : new int[] {-1, Edges.MIN}) {
                Edges.refused(FOUR, "queue(" + k + ")", 1, y -> y.queue(k));
            }
            for (int k : new int[] {3, 4, 8, Edges.MAX}) {
                Edges.refused(FOUR, "queue(" + k + ")", 5, y -> y.queue(k));
            }
            HomesQueue all = Edges.told(Edges.lines("house p", 8, " 2 1 0 500;"));
            for (int k = 0; k < 8; k++) {
                is(all, "queue(" + k + ") of eight alike", all.queue(k), k);
            }
            not(all, "queue(8)", all.queue(8), 5);
        });
        Edges.edge(29, "by BAND NOW, DAY, number", () -> {
            // No LOCAL TURN and no QUOTA TURN counts here.
            HomesQueue x = Edges.told("rule local 1;rule quota 100;home a 1 5;home b 1 5;house n 1 1 5 500;"
                    + "house p 2 1 0 500;house q 2 1 5 501;house r 2 1 5 500;house s 4 1 5 0 in b;house t 2 1 0 1;");
            Edges.bid(x, 0, 0);
            x.week();
            int[] queue = {5, 1, 3, 2, 4};
            for (int k = 0; k < 5; k++) {
                is(x, "queue(" + k + ")", x.queue(k), queue[k]);
            }
        });
    }

    private static void gifts() {
        Edges.edge(0, "MOST: how many HOUSES that are not OUT and not BARRED", () -> {
            // q is BARRED, r OUT; either would TAKE the HOME that is FREE and FITS it.
            HomesQueue x = Edges.told("rule refuse 1;rule bar 1;home a 1 0;home b 1 0;house q 1 1 0 500 b;house r 1 1 0 500;");
            is(x, "both", x.most(), 2);
            Edges.bid(x, 0, 0);
            x.week();
            is(x, "r alone", x.most(), 1);
            x.leave(1);
            is(x, "nobody", x.most(), 0);
            x.week();
            is(x, "q is BARRED no more", x.most(), 1);
        });
        Edges.edge(0, "could be given a FREE HOME that FITS and that it would TAKE, each another one, at most.", () -> {
            HomesQueue x = FOUR.make();
            is(x, "p and s", x.most(), 2);
            x.shut(2, true);
            is(x, "p: c is SHUT", x.most(), 1);
            x.leave(0);
            is(x, "nobody: q is BARRED", x.most(), 0);
            HomesQueue y = Edges.told("home a 1 0;" + Edges.lines("house p", 8, " 1 1 0 500;"));
            is(y, "one HOME for eight", y.most(), 1);
            HomesQueue z = Edges.told(Edges.lines("home ", 10, " 1 0;") + Edges.lines("house p", 8, " 1 1 0 500;"));
            is(z, "ten HOMES for eight", z.most(), 8);
            HomesQueue v = Edges.told(Edges.lines("home ", 10, " 1 0;") + "house p 1 1 0 500;");
            is(v, "ten HOMES for one", v.most(), 1);
        });
        Edges.edge(30, "MOST.", () -> {
            HomesQueue none = new HomesQueue();
            is(none, "of nothing", none.most(), 0);
            // Each of eight is given another one only if all but the last give way.
            StringBuilder b = new StringBuilder(Edges.lines("home ", 8, " 1 0;"));
            for (int i = 0; i < 7; i++) {
                b.append("house p").append((char) ('a' + i)).append(" 1 1 0 500 ").append((char) ('a' + i)).append(' ')
                        .append((char) ('b' + i)).append(';');
            }
            HomesQueue x = Edges.told(b + "house q 1 1 0 500 a;");
            is(x, "eight", x.most(), 8);
            for (int i = 0; i < 8; i++) {
                is(x, "gift(" + i + ")", x.gift(i), i < 7 ? i + 1 : 0);
            }
        });
        Edges.edge(0, "THE GIFT: of all ways to do so for MOST of them the first", () -> {
            // p could have any; with a or b for p one of q, r would have none.
            HomesQueue x = Edges.told("home a 1 0;home b 1 0;home c 1 0;house p 1 1 0 500;house q 1 1 0 500 a b;"
                    + "house r 1 1 0 500 a b;");
            is(x, "c, for MOST", x.gift(0), 2);
            is(x, "a, the lesser", x.gift(1), 0);
            is(x, "b", x.gift(2), 1);
            x.leave(2);
            is(x, "a", x.gift(0), 0);
            is(x, "b", x.gift(1), 1);
        });
        Edges.edge(0, "HOUSE by HOUSE: the lesser HOME (none behind all HOMES)", () -> {
            HomesQueue x = Edges.told("home a 1 0;home b 1 0;" + Edges.lines("house p", 3, " 1 1 0 500;"));
            is(x, "gift(0)", x.gift(0), 0);
            is(x, "gift(1)", x.gift(1), 1);
            not(x, "gift(2)", x.gift(2), 5);
            HomesQueue y = Edges.told("home a 1 0;home b 1 0;house p 1 1 0 500 b a;house q 1 1 0 500 a;");
            is(y, "q needs a", y.gift(0) * 10 + y.gift(1), 10);
            y.unwish(1, 0);
            is(y, "q has no WISHES: the lesser for p, not the dearer", y.gift(0) * 10 + y.gift(1), 1);
        });
        Edges.edge(31, "(2; 5: none)", () -> {
            for (int house : NO_HOUSE) {
                Edges.refused(FOUR, "gift(" + house + ")", 2, x -> x.gift(house));
            }
            Edges.refused(FOUR, "q is BARRED", 5, x -> x.gift(1));
            Edges.refused(FOUR, "r is OUT", 5, x -> x.gift(2));
            HomesQueue x = FOUR.make();
            is(x, "p", x.gift(0), 1);
            is(x, "s", x.gift(3), 2);
            x.shut(1, true);
            not(x, "b is SHUT", x.gift(0), 5);
        });
    }

    private static void tradeRounds() {
        Edges.edge(0, "TRADE: HOUSES that live in a HOME (also those that are OUT)", () -> {
            HomesQueue x = Edges.told("home a 1 0;home b 1 0;house p 1 1 0 500 a b;house q 1 1 0 500 in b a;house r 1 1 0 500 b;");
            is(x, "p lives in none, so q has nobody to trade with", x.trade(1), 1);
            Edges.bid(x, 0, 0);
            x.week();
            x.unwish(0, 0);
            is(x, "p is OUT and trades", x.trade(0) * 10 + x.trade(1), 10);
            not(x, "r lives in none", x.trade(2), 5);
            x.leave(1);
            is(x, "q left: p has its own", x.trade(0), 0);
        });
        Edges.edge(0, "each looks at its dearest WISH that FITS it among HOMES in which one of those lives who have not"
                + " traded yet", () -> {
            // p: c does not FIT, d is FREE, its own is dearer than b.
            HomesQueue x = Edges.told("home a 1 0;home b 1 0;home c 3 0;home d 1 0;house p 1 1 0 500 in a c d a b;"
                    + "house q 1 1 0 500 in b a;house r 1 3 0 500 in c;");
            is(x, "its own", x.trade(0), 0);
            x.unwish(0, 0);
            is(x, "b", x.trade(0) * 10 + x.trade(1), 10);
            // An own HOME that is a WISH and does not FIT is no such one, and it has it still if there is none.
            HomesQueue y = Edges.told("home a 4 0;home b 1 0;house p 1 1 0 500 in a a b;house q 1 4 0 500 in b a;");
            is(y, "b is dearer than one that does not FIT", y.trade(0) * 10 + y.trade(1), 10);
            y.unwish(0, 1);
            is(y, "its own", y.trade(0) * 10 + y.trade(1), 1);
        });
        Edges.edge(0, "or at its own, if there is none such", () -> {
            // p's WISHES: a FREE one, one that does not FIT, then none that is lived in.
            HomesQueue x = Edges.told("home a 1 0;home b 1 0;home c 3 0;house p 1 1 0 500 in a b c;house q 1 3 0 500 in c;");
            is(x, "p", x.trade(0), 0);
            is(x, "q, without WISHES", x.trade(1), 2);
        });
        Edges.edge(0, "those who look round in a circle get the HOME they look at and have traded (one by itself: its"
                + " own); so on, till all have", () -> {
            // p and q trade; then r looks at its next WISH; s is left with its own.
            HomesQueue x = Edges.told(Edges.lines("home ", 4, " 1 0;") + "house p 1 1 0 500 in a b;"
                    + "house q 1 1 0 500 in b a;house r 1 1 0 500 in c a d;house s 1 1 0 500 in d b a c;");
            int[] got = {1, 0, 3, 2};
            for (int i = 0; i < 4; i++) {
                is(x, "trade(" + i + ")", x.trade(i), got[i]);
            }
            is(x, "circles", x.trades(1), 2);
            x.unwish(3, 2);
            is(x, "s has none left", x.trade(3), 3);
            is(x, "r, then, its own", x.trade(2), 2);
            StringBuilder b = new StringBuilder(Edges.lines("home ", 8, " 1 0;"));
            for (int i = 0; i < 8; i++) {
                b.append("house p").append((char) ('a' + i)).append(" 1 1 0 500 in ").append((char) ('a' + i)).append(' ')
                        .append((char) ('a' + (i + 1) % 8)).append(';');
            }
            HomesQueue y = Edges.told(b.toString());
            for (int i = 0; i < 8; i++) {
                is(y, "a circle of eight", y.trade(i), (i + 1) % 8);
            }
            is(y, "eight get another", y.trades(0), 8);
            is(y, "one circle", y.trades(1), 1);
            is(y, "of eight", y.trades(2), 8);
            for (int i = 0; i < 8; i++) {
                y.unwish(i, (i + 1) % 8);
            }
            for (int i = 0; i < 8; i++) {
                is(y, "eight by themselves", y.trade(i), i);
            }
            // Each waits for all behind it: eight rounds.
            for (int i = 0; i < 7; i++) {
                y.wish(i, i + 1);
            }
            for (int i = 0; i < 8; i++) {
                is(y, "a row of eight that is no circle", y.trade(i), i);
            }
        });
        Edges.edge(32, "(2; 5: it lives in none)", () -> {
            for (int house : NO_HOUSE) {
                Edges.refused(FOUR, "trade(" + house + ")", 2, x -> x.trade(house));
            }
            Edges.refused(FOUR, "p lives in none", 5, x -> x.trade(0));
            HomesQueue x = FOUR.make();
            is(x, "r, who is OUT", x.trade(2), 0);
            is(x, "s", x.trade(3), 3);
            x.leave(3);
            not(x, "s left", x.trade(3), 5);
        });
        Edges.edge(33, "1: circles of two or more", () -> {
            HomesQueue x = Edges.told(Edges.lines("home ", 8, " 1 0;") + "house p 1 1 0 500 in a;house q 1 1 0 500 in b c;"
                    + "house r 1 1 0 500 in c b;house s 1 1 0 500 in d e;house t 1 1 0 500 in e f;"
                    + "house u 1 1 0 500 in f d;house v 1 1 0 500 in g g;");
            is(x, "q and r; s, t and u; not p, not v", x.trades(1), 2);
            is(x, "the greatest", x.trades(2), 3);
            is(x, "five get another", x.trades(0), 5);
        });
        Edges.edge(33, "2: HOUSES in the greatest circle (0 without any HOUSE that lives in one) (1)", () -> {
            HomesQueue none = Edges.told("home a 1 0;house p 1 1 0 500;");
            for (int what = 0; what < 3; what++) {
                is(none, "nobody lives in one", none.trades(what), 0);
            }
            HomesQueue one = Edges.told("home a 1 0;house p 1 1 0 500 in a;");
            is(one, "who gets its own gets no other", one.trades(0), 0);
            is(one, "one by itself is no circle of two", one.trades(1), 0);
            is(one, "the greatest is of one", one.trades(2), 1);
            HomesQueue two = Edges.told("home a 1 0;home b 1 0;home c 1 0;house o 1 1 0 500 in c;house p 1 1 0 500 in a b;"
                    + "house q 1 1 0 500 in b a;");
            is(two, "two get another", two.trades(0), 2);
            is(two, "a circle of two", two.trades(1), 1);
            is(two, "the greatest is of two", two.trades(2), 2);
            two.unwish(2, 0);
            is(two, "q wants no other: none", two.trades(0) * 10 + two.trades(1), 0);
            is(two, "each by itself", two.trades(2), 1);
            two.leave(0);
            two.leave(1);
            two.leave(2);
            is(two, "nobody lives in one any more", two.trades(2), 0);
            for (int what : new int[] {-1, 3, Edges.MIN, Edges.MAX}) {
                Edges.refused(FOUR, "trades(" + what + ")", 1, x -> x.trades(what));
            }
        });
    }

    private static void longestRows() {
        Edges.edge(0, "LONGEST: a row of moves: a FREE HOME is given to a HOUSE, the HOME it lived in to another one, and"
                + " so on, each not OUT, not BARRED, each time a HOME that FITS and that it would TAKE", () -> {
            String text = "rule refuse 1;rule bar 1;home a 1 0;home b 1 0;home c 1 0;home z 1 0;"
                    + "house p 1 1 0 500 in b a;house q 1 1 0 500 in c b;house r 1 1 0 500 c;house s 1 1 0 500 z;";
            HomesQueue x = Edges.told(text);
            is(x, "p, q, r", x.longest(NONE, false), 3);
            x.leave(2);
            is(x, "r is OUT", x.longest(NONE, false), 2);
            x.undo();
            x.need(1, 2);
            is(x, "b does not FIT q", x.longest(NONE, false), 1);
            x.undo();
            x.unwish(1, 1);
            x.wish(1, 3);
            is(x, "q would not TAKE b: z, then c", x.longest(0, false) * 10 + x.longest(NONE, false), 12);
            x.undo();
            x.undo();
            x.shut(0, true);
            is(x, "a is SHUT: s alone", x.longest(NONE, false), 1);
            x.undo();
            Edges.bid(x, 1, 0);
            x.week();
            is(x, "q is BARRED", x.longest(NONE, false), 1);
            x.week();
            is(x, "no more", x.longest(NONE, false), 3);
        });
        Edges.edge(0, "no HOUSE twice, till one has lived in none (or nobody is given the HOME it left)", () -> {
            HomesQueue x = Edges.told("home a 1 0;home b 1 0;house p 1 1 0 500 in b a b;");
            is(x, "p is given a, and not b again", x.longest(NONE, false), 1);
            HomesQueue y = Edges.told("home a 1 0;home b 1 0;house p 1 1 0 500 in b a;house q 1 1 0 500 b;");
            is(y, "q has lived in none", y.longest(NONE, false), 2);
            HomesQueue z = Edges.told("home a 1 0;home b 1 0;house p 1 1 0 500 a;house q 1 1 0 500 b;");
            is(z, "who has lived in none ends it", z.longest(NONE, false), 1);
            HomesQueue v = Edges.told(CHAIN);
            is(v, "n, o, p", v.longest(NONE, false), 3);
            v.leave(1);
            is(v, "nobody is given the HOME that n left", v.longest(NONE, false), 1);
            // A row of fewer HOUSES behind one of more: nothing of the longer one is left.
            HomesQueue fewer = Edges.told(CHAIN);
            is(fewer, "three", fewer.longest(NONE, false), 3);
            Edges.feed(fewer, CHAIN);
            fewer.load(CHAIN.indexOf("house p"));
            is(fewer, "two: nobody is given the HOME that o left", fewer.longest(NONE, false), 2);
            not(fewer, "no third", fewer.longest(2, false), 5);
            // c, which q left, could be given to p but that p has moved.
            HomesQueue w = Edges.told("home a 1 0;home b 1 0;home c 1 0;house p 1 1 0 500 in b a c;house q 1 1 0 500 in c b;");
            is(w, "p, then q", w.longest(NONE, false), 2);
            is(w, "p", w.longest(0, false) * 10 + w.longest(0, true), 0);
            is(w, "q", w.longest(1, false) * 10 + w.longest(1, true), 11);
            not(w, "p is not given c", w.longest(2, false), 5);
        });
        Edges.edge(0, "of several the first: by the FREE HOME, then HOUSE by HOUSE the lesser number", () -> {
            HomesQueue x = Edges.told("home a 1 0;home b 1 0;home c 1 0;home d 1 0;house o 1 1 0 500 in c b;"
                    + "house p 1 1 0 500 in d a;house q 1 1 0 500;house r 1 1 0 500;");
            is(x, "two moves", x.longest(NONE, false), 2);
            is(x, "a, not b", x.longest(0, true), 0);
            is(x, "p", x.longest(0, false), 1);
            is(x, "then q, not r", x.longest(1, false), 2);
            is(x, "d", x.longest(1, true), 3);
        });
        Edges.edge(34, "how many moves (k NONE), who makes the k-th (from 0), or (ofHome) the HOME given in it (1: k"
                + " below NONE; 5: not so many)", () -> {
            HomesQueue x = FOUR.make();
            is(x, "how many", x.longest(NONE, false), 1);
            is(x, "how many, ofHome", x.longest(NONE, true), 1);
            is(x, "who: p, as b is ahead of c", x.longest(0, false), 0);
            is(x, "the HOME", x.longest(0, true), 1);
            for (boolean ofHome : new boolean[] {false, true}) {
                for (int k : new int[] {-2, -3, Edges.MIN}) {
                    Edges.refused(FOUR, "longest(" + k + ")", 1, y -> y.longest(k, ofHome));
                }
                for (int k : new int[] {1, 2, 8, Edges.MAX}) {
                    Edges.refused(FOUR, "longest(" + k + ")", 5, y -> y.longest(k, ofHome));
                }
                HomesQueue none = new HomesQueue();
                is(none, "no moves", none.longest(NONE, ofHome), 0);
                not(none, "no moves", none.longest(0, ofHome), 5);
            }
            x.leave(0);
            x.shut(2, true);
            is(x, "none: q is BARRED, r OUT, c SHUT", x.longest(NONE, false), 0);
            HomesQueue z = Edges.told("rule refuse 1;home a 1 0;home b 1 0;house p 1 1 0 500 b;house q 1 1 0 500;");
            Edges.bid(z, 0, 0);
            z.week();
            z.leave(1);
            is(z, "none: p is BARRED, q OUT", z.longest(NONE, false), 0);
            is(z, "none", z.most(), 0);
        });
    }

    private static void gaps() {
        Edges.edge(35, "How many BANDS higher (less) a HOUSE would have to be (0 to 3)", () -> {
            HomesQueue x = Edges.told("home a 1 0;house p 4 1 0 500;house q 1 1 0 501;house r 2 1 0 499;house s 3 1 0 500;");
            is(x, "alone", x.gap(0, 0), 0);
            Edges.bid(x, 3, 0);
            is(x, "as good as s, with the lesser number", x.gap(0, 0), 1);
            Edges.bid(x, 2, 0);
            is(x, "r has the lesser DAY", x.gap(0, 0), 3);
            Edges.bid(x, 1, 0);
            is(x, "as good as q, with the lesser DAY", x.gap(0, 0), 3);
            is(x, "q", x.gap(1, 0), 0);
            is(x, "r", x.gap(2, 0), 1);
            is(x, "s", x.gap(3, 0), 2);
            // 1,000 days by AGE 999: BAND NOW 3.
            HomesQueue y = Edges.told("home a 1 0;house p 4 1 0 0;house q 1 1 0 500;");
            Edges.bid(y, 1, 0);
            is(y, "from BAND NOW 3", y.gap(0, 0), 2);
        });
        Edges.edge(35, "to be the first by ORDER of those who BID for a HOME now and itself", () -> {
            HomesQueue x = Edges.told("home a 1 0;home b 1 0;house p 3 1 0 500;house q 1 1 0 500;house r 2 1 0 500;");
            Edges.bid(x, 1, 1);
            is(x, "q does not BID for a", x.gap(0, 0), 0);
            Edges.bid(x, 2, 0);
            is(x, "r does", x.gap(0, 0), 1);
            Edges.bid(x, 0, 0);
            is(x, "with a BID of its own", x.gap(0, 0), 1);
            is(x, "r itself", x.gap(2, 0), 0);
            is(x, "q, without a BID for it", x.gap(1, 0), 0);
        });
        Edges.edge(35, "(2; 5: it is OUT, BARRED, it does not FIT, or it would not be with BAND NOW 1)", () -> {
            noSuch("gap()", (x, house, home) -> x.gap(house, home));
            Edges.refused(FOUR, "r is OUT", 5, x -> x.gap(2, 1));
            Edges.refused(FOUR, "q is BARRED", 5, x -> x.gap(1, 1));
            Edges.refused(FOUR, "two ROOMS more", 5, x -> x.gap(0, 2));
            Edges.refused(FOUR, "a ROOM less", 5, x -> x.gap(3, 1));
            HomesQueue x = FOUR.make();
            is(x, "p, the only one", x.gap(0, 1), 0);
            Edges.Making late = () -> {
                HomesQueue y = Edges.told("home a 1 0;house p 4 1 0 500;house q 1 1 0 499;house r 1 1 0 500;house s 1 1 0 500;");
                Edges.bid(y, 1, 0);
                return y;
            };
            Edges.refused(late, "q has the lesser DAY", 5, y -> y.gap(0, 0));
            Edges.refused(late, "q has the lesser DAY", 5, y -> y.gap(2, 0));
            HomesQueue z = late.make();
            z.unbid(1, 0);
            Edges.bid(z, 2, 0);
            is(z, "r is alike, with the greater number", z.gap(0, 0), 3);
            not(z, "s has the greater number", z.gap(3, 0), 5);
            // A BAND helps nobody past a LOCAL TURN.
            HomesQueue v = Edges.told("rule local 1;home a 1 1;house p 4 1 0 500;house q 4 1 1 500;");
            Edges.bid(v, 1, 0);
            not(v, "q has a TIE", v.gap(0, 0), 5);
            HomesQueue w = Edges.told("home a 1 1;house p 4 1 0 500 in a;");
            is(w, "not FREE is none of these", w.gap(0, 0), 0);
        });
    }
}
