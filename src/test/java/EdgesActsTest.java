/** The edges of STATUS (==== 4.), of UNDO, and of the promises 36 to 48. */
public final class EdgesActsTest {
    private static final int NONE = Edges.NONE;
    private static final int[] NO_HOUSE = {-1, 4, 8, Edges.MIN, Edges.MAX};
    private static final int[] NO_HOME = {-1, 4, 10, Edges.MIN, Edges.MAX};
    private static final int[] LEAST = {1, 1, 0, 0, 1, 1};
    private static final int[] MOST = {9, 52, 9, 100, 999, 3};
    private static final int[] WITHOUT = {3, 4, 0, 0, 999, 2};
    private static final String RULES = "rule refuse 3;rule bar 4;rule local 0;rule quota 0;rule age 999;rule bids 2;";

    // Of four HOUSES q is BARRED, r has TAKEN a, s lives in d; b and c are FREE, p BIDS for b.
    private static final Edges.Making FOUR = () -> {
        HomesQueue x = Edges.told("rule refuse 1;rule bar 9;home a 1 0;home b 1 1;home c 3 0;home d 2 1;"
                + "house p 2 1 1 500 b;house q 1 1 0 500 d b;house r 3 1 0 500;house s 4 2 0 600 in d c;");
        Edges.bid(x, 1, 0);
        Edges.bid(x, 2, 0);
        x.week();
        Edges.bid(x, 0, 1);
        return x;
    };

    public static void main(String[] args) throws Exception {
        Edges.begin();
        statuses();
        bidding();
        autos();
        weekEnds();
        wishing();
        leaving();
        shutting();
        needing();
        ruling();
        undoing();
        printing();
        outs();
        Edges.end("EdgesActsTest", 36, 48);
    }

    private static void is(HomesQueue x, String call, int got, int want) {
        Edges.is(x, call, got, want);
    }

    private static void not(HomesQueue x, String call, int got, int status) {
        Edges.not(x, call, got, status);
    }

    private interface OfHouseAndHome {
        int on(HomesQueue x, int house, int home);
    }

    private static void noSuch(String name, OfHouseAndHome call) {
        for (int house : NO_HOUSE) {
            Edges.refused(FOUR, name + " of HOUSE " + house, 2, x -> call.on(x, house, 1));
        }
        for (int home : NO_HOME) {
            Edges.refused(FOUR, name + " of HOME " + home, 2, x -> call.on(x, 0, home));
            Edges.refused(FOUR, name + " of neither", 2, x -> call.on(x, -1, home));
        }
    }

    private static void statuses() {
        Edges.edge(0, "STATUS of a call is the first of those told with it that holds", () -> {
            HomesQueue x = FOUR.make();
            not(x, "home(): 1 ahead of 2", x.home(9, 9), 1);
            not(x, "need(): 1 ahead of 2", x.need(9, 9), 1);
            not(x, "need(): 2 ahead of 4", x.need(9, 1), 2);
            not(x, "when(): 1 ahead of 4", x.when(2, 0, true), 1);
            not(x, "let(): 1 ahead of 2", x.let(-1, -1), 1);
            not(x, "order(): 2 ahead of 5", x.order(9, 9), 2);
            HomesQueue y = Edges.told(Edges.lines("home ", 7, " 1 0;") + "house p 1 1 0 500 a b c d e f;");
            not(y, "wish(): 4 ahead of 3", y.wish(0, 5), 4);
            not(y, "wish(): 2 ahead of 3", y.wish(0, 7), 2);
            not(y, "wish(): 3", y.wish(0, 6), 3);
        });
        Edges.edge(0, "With another STATUS than 0 a call gives NONE, and changes nothing else.", () -> {
            // With twelve ACTS kept, one that is refused pushes none of them out.
            Edges.Making full = () -> {
                HomesQueue x = FOUR.make();
                for (int i = 0; i < 12; i++) {
                    x.shut(2, i % 2 == 0);
                }
                return x;
            };
            Edges.Call[] calls = {x -> x.bid(0, 1), x -> x.bid(9, 9), x -> x.unbid(0, 2), x -> x.wish(0, 1),
                x -> x.unwish(0, 0), x -> x.leave(2), x -> x.leave(9), x -> x.shut(2, false), x -> x.need(0, 1),
                x -> x.need(0, 5), x -> x.rules(0, 1), x -> x.rules(0, 10), x -> x.load(1)};
            int[] status = {7, 2, 5, 4, 5, 4, 2, 4, 4, 1, 4, 1, 1};
            for (int i = 0; i < calls.length; i++) {
                Edges.refused(full, "refused call " + i, status[i], calls[i]);
                HomesQueue x = full.make();
                calls[i].on(x);
                Edges.undo(x, 12);
                not(x, "a thirteenth undo()", x.undo(), 5);
                is(x, "as it was ahead of the twelve", x.home(2, 6) * 10 + x.bids(0, 1), 1);
            }
        });
        Edges.edge(0, "1 a number that can't be (below 0, too, of one that counts).", () -> {
            HomesQueue x = FOUR.make();
            not(x, "order(1, -1)", x.order(1, -1), 1);
            not(x, "queue(-1)", x.queue(-1), 1);
            not(x, "weeks(-1, 0)", x.weeks(-1, 0), 1);
            not(x, "when(0, -1)", x.when(0, -1, false), 1);
            not(x, "lever(-1, 0)", x.lever(-1, 0), 1);
            not(x, "lot(0, -1)", x.lot(0, -1), 1);
            not(x, "load(-1)", x.load(-1), 1);
            not(x, "longest(-2)", x.longest(-2, false), 1);
            not(x, "rules(0, -1)", x.rules(0, -1), 1);
            not(x, "rules(2, -1)", x.rules(2, -1), 1);
            not(x, "need(0, -1)", x.need(0, -1), 1);
        });
    }

    private static void bidding() {
        Edges.edge(36, "A HOUSE BIDS for a HOME: how many BIDS it has (2; 7).", () -> {
            HomesQueue x = Edges.told("rule bids 3;" + Edges.lines("home ", 4, " 1 0;") + "house p 1 1 0 500;");
            is(x, "the first", x.bid(0, 3), 1);
            is(x, "the second", x.bid(0, 0), 2);
            is(x, "the third", x.bid(0, 1), 3);
            not(x, "a fourth", x.bid(0, 2), 7);
            is(x, "they stand", Edges.bidBits(x, 0), 1 + 2 + 8);
            noSuch("bid()", (y, house, home) -> y.bid(house, home));
            Edges.refused(FOUR, "1: r is OUT", 7, y -> y.bid(2, 1));
            Edges.refused(FOUR, "2: q is BARRED", 7, y -> y.bid(1, 1));
            Edges.refused(FOUR, "3: d isn't FREE", 7, y -> y.bid(0, 3));
            Edges.refused(FOUR, "4: c does not FIT", 7, y -> y.bid(0, 2));
            Edges.refused(FOUR, "5: it BIDS already", 7, y -> y.bid(0, 1));
            for (int rule = 1; rule <= 3; rule++) {
                int bids = rule;
                Edges.refused(() -> {
                    HomesQueue y = Edges.told("rule bids " + bids + ";" + Edges.lines("home ", 4, " 1 0;") + "house p 1 1 0 500;");
                    for (int i = 0; i < bids; i++) {
                        is(y, "BID " + i, y.bid(0, i), i + 1);
                    }
                    return y;
                }, "6: as many as the rule says, " + rule, 7, y -> y.bid(0, 3));
            }
        });
        Edges.edge(37, "A BID is taken back: how many BIDS it has (2; 5: it has none for that).", () -> {
            HomesQueue x = Edges.told(Edges.lines("home ", 3, " 1 0;") + "house p 1 1 0 500;house q 1 1 0 500;");
            Edges.bid(x, 0, 0, 1);
            Edges.bid(x, 1, 0);
            is(x, "one is left", x.unbid(0, 0), 1);
            is(x, "none is left", x.unbid(0, 1), 0);
            is(x, "q's stands", x.bids(1, 0), 1);
            not(x, "gone already", x.unbid(0, 1), 5);
            is(x, "and again a BID", x.bid(0, 1), 1);
            noSuch("unbid()", (y, house, home) -> y.unbid(house, home));
            Edges.refused(FOUR, "none for that", 5, y -> y.unbid(0, 2));
            Edges.refused(FOUR, "none at all", 5, y -> y.unbid(3, 1));
            Edges.refused(FOUR, "r is OUT", 5, y -> y.unbid(2, 0));
        });
    }

    private static void autos() {
        Edges.edge(38, "All BID AS THEY WOULD: how many BIDS more (4: none).", () -> {
            HomesQueue x = FOUR.make();
            is(x, "s, and p has its BID", x.auto(), 1);
            not(x, "none more", x.auto(), 4);
            is(x, "the ACTS ahead of it, and it", x.many(7), 5);
            Edges.Making done = () -> {
                HomesQueue y = FOUR.make();
                y.auto();
                return y;
            };
            Edges.refused(done, "none", 4, y -> y.auto());
            Edges.refused(() -> Edges.told("home a 1 0;"), "no HOUSES", 4, y -> y.auto());
            Edges.refused(() -> Edges.told("house p 1 1 0 500;"), "no HOMES", 4, y -> y.auto());
            Edges.refused(HomesQueue::new, "nothing", 4, y -> y.auto());
            Edges.refused(() -> Edges.told("home a 3 0;house p 1 1 0 500;"), "it does not FIT", 4, y -> y.auto());
            HomesQueue all = Edges.told("rule bids 3;" + Edges.lines("home ", 10, " 1 0;")
                    + Edges.lines("house p", 8, " 1 1 0 500;"));
            is(all, "three for each of eight", all.auto(), 24);
            is(all, "BIDS", all.many(4), 24);
        });
    }

    private static void weekEnds() {
        Edges.edge(39, "The WEEK ends: how many LETS in it (3: WEEK 999 does not end).", () -> {
            HomesQueue x = Edges.told(Edges.lines("home ", 10, " 1 0;") + Edges.lines("house p", 8, " 1 1 0 500;"));
            is(x, "no BIDS, no LETS", x.week(), 0);
            for (int i = 0; i < 8; i++) {
                Edges.bid(x, i, 9 - i);
            }
            is(x, "all of them", x.week(), 8);
            is(x, "nobody is left", x.week(), 0);
            is(x, "LETS", x.many(3), 8);
            // Beyond the 512 calls, where answers are free: what the document says of it is tried still.
            HomesQueue late = new HomesQueue();
            for (int i = 0; i < 998; i++) {
                late.week();
            }
            is(late, "WEEK 998 ends", late.week(), 0);
            is(late, "WEEK 999", late.many(2), 999);
            not(late, "it does not end", late.week(), 3);
            is(late, "WEEK 999", late.many(2), 999);
            is(late, "ACTS", late.many(7), 12);
        });
    }

    private static void wishing() {
        Edges.edge(40, "A WISH comes behind those of a HOUSE: how many it has (2; 4: it is one; 3: there are 6).", () -> {
            Edges.Making seven = () -> Edges.told(Edges.lines("home ", 7, " 1 0;") + "house p 1 1 0 500 in g;");
            HomesQueue x = seven.make();
            int[] wishes = {6, 3, 0, 5, 1, 2};
            for (int k = 0; k < 6; k++) {
                is(x, "WISH " + k, x.wish(0, wishes[k]), k + 1);
                not(x, "it is one", x.wish(0, wishes[k]), 4);
            }
            Edges.due("WISHES", Edges.wishes(x, 0), "6 3 0 5 1 2");
            not(x, "a seventh", x.wish(0, 4), 3);
            not(x, "it is one: 4 ahead of 3", x.wish(0, 6), 4);
            noSuch("wish()", (y, house, home) -> y.wish(house, home));
            Edges.refused(FOUR, "it is one", 4, y -> y.wish(0, 1));
            Edges.Making six = () -> {
                HomesQueue y = seven.make();
                for (int k = 0; k < 6; k++) {
                    y.wish(0, k);
                }
                return y;
            };
            Edges.refused(six, "a seventh", 3, y -> y.wish(0, 6));
            Edges.refused(six, "4 ahead of 3", 4, y -> y.wish(0, 5));
            Edges.refused(six, "2 ahead of 3", 2, y -> y.wish(0, 7));
            HomesQueue z = six.make();
            z.unwish(0, 0);
            is(z, "there is room again", z.wish(0, 6), 6);
            Edges.due("it comes behind", Edges.wishes(z, 0), "1 2 3 4 5 6");
        });
        Edges.edge(41, "A WISH of a HOUSE goes (its BIDS stay); those behind it come up: how many it has (2; 5: it is"
                + " none).", () -> {
            Edges.Making six = () -> Edges.told(Edges.lines("home ", 7, " 1 0;") + "house p 1 1 0 500 a b c d e f;");
            HomesQueue first = six.make();
            is(first, "the first", first.unwish(0, 0), 5);
            Edges.due("those behind it", Edges.wishes(first, 0), "1 2 3 4 5");
            HomesQueue last = six.make();
            is(last, "the last", last.unwish(0, 5), 5);
            Edges.due("those ahead of it", Edges.wishes(last, 0), "0 1 2 3 4");
            HomesQueue all = six.make();
            Edges.bid(all, 0, 2);
            for (int k = 5; k >= 0; k--) {
                is(all, "each", all.unwish(0, 5 - k), k);
            }
            Edges.due("none", Edges.wishes(all, 0), "");
            is(all, "its BID stays", all.bids(0, 2), 1);
            is(all, "and without WISHES it TAKES it", all.week(), 1);
            noSuch("unwish()", (y, house, home) -> y.unwish(house, home));
            Edges.refused(FOUR, "it is none", 5, y -> y.unwish(0, 0));
            Edges.refused(FOUR, "it has none", 5, y -> y.unwish(2, 0));
            Edges.refused(six, "it is none of six", 5, y -> y.unwish(0, 6));
        });
    }

    private static void leaving() {
        Edges.edge(42, "(the HOME in which it lives is FREE from the next WEEK on, and it lives in none)", () -> {
            HomesQueue x = FOUR.make();
            Edges.bid(x, 3, 2);
            is(x, "leave(3)", x.leave(3), 2);
            is(x, "its BIDS are gone", x.bids(3, 2), 0);
            is(x, "p's stays", x.bids(0, 1), 1);
            is(x, "BIDS in all", x.many(4), 1);
            not(x, "nobody lives in d", x.home(3, 2), 5);
            not(x, "it lives in none", x.house(3, 5), 5);
            is(x, "d is not FREE", x.home(3, 3), 0);
            x.week();
            is(x, "d is FREE", x.home(3, 3), 1);
        });
        Edges.edge(42, "how many HOUSES are not OUT (2; 4: it is OUT).", () -> {
            HomesQueue x = FOUR.make();
            is(x, "p", x.leave(0), 2);
            is(x, "q, who is BARRED", x.leave(1), 1);
            is(x, "s, the last", x.leave(3), 0);
            for (int house : NO_HOUSE) {
                Edges.refused(FOUR, "leave(" + house + ")", 2, y -> y.leave(house));
            }
            Edges.refused(FOUR, "r TOOK a HOME", 4, y -> y.leave(2));
            Edges.refused(() -> {
                HomesQueue y = FOUR.make();
                y.leave(3);
                return y;
            }, "s left", 4, y -> y.leave(3));
        });
    }

    private static void shutting() {
        Edges.edge(43, "A HOME is SHUT (yes true; BIDS for it are gone; who lives there stays), or no more", () -> {
            HomesQueue x = FOUR.make();
            Edges.bid(x, 3, 2);
            is(x, "shut(1, true)", x.shut(1, true), 1);
            is(x, "BIDS for it are gone", x.bids(0, 1), 0);
            is(x, "others stay", x.bids(3, 2), 1);
            is(x, "shut(1, false)", x.shut(1, false), 2);
            is(x, "they are gone still", x.bids(0, 1), 0);
            is(x, "shut(3, true)", x.shut(3, true), 2);
            is(x, "who lives there stays", x.home(3, 2), 3);
            is(x, "where it lives", x.house(3, 5), 3);
        });
        Edges.edge(43, "how many HOMES are FREE (2; 4).", () -> {
            HomesQueue x = FOUR.make();
            is(x, "one", x.shut(1, true), 1);
            is(x, "none", x.shut(2, true), 0);
            is(x, "none, as a is lived in", x.shut(0, true), 0);
            is(x, "one", x.shut(2, false), 1);
            for (int home : NO_HOME) {
                Edges.refused(FOUR, "shut(" + home + ", true)", 2, y -> y.shut(home, true));
                Edges.refused(FOUR, "shut(" + home + ", false)", 2, y -> y.shut(home, false));
            }
            for (int home = 0; home < 4; home++) {
                int h = home;
                Edges.refused(FOUR, "not SHUT", 4, y -> y.shut(h, false));
                Edges.refused(() -> {
                    HomesQueue y = FOUR.make();
                    y.shut(h, true);
                    return y;
                }, "SHUT", 4, y -> y.shut(h, true));
            }
        });
    }

    private static void needing() {
        Edges.edge(44, "NEED of a HOUSE is another one (1 to 4); its BIDS for HOMES that do not FIT it then are gone", () -> {
            HomesQueue x = Edges.told("rule bids 3;home a 1 0;home b 2 0;home c 2 0;home d 3 0;home e 4 0;"
                    + "house p 1 1 0 500;house q 1 1 0 500;");
            Edges.bid(x, 0, 0, 1, 2);
            Edges.bid(x, 1, 0);
            is(x, "need(0, 2)", x.need(0, 2), 1);
            is(x, "a does not FIT", Edges.bidBits(x, 0), 2 + 4);
            is(x, "q's BID stays", x.bids(1, 0), 1);
            Edges.bid(x, 0, 3);
            is(x, "need(0, 1)", x.need(0, 1), 2);
            is(x, "d does not FIT", Edges.bidBits(x, 0), 2 + 4);
            is(x, "need(0, 4)", x.need(0, 4), 1);
            is(x, "none of them FITS", Edges.bidBits(x, 0), 0);
            is(x, "e", x.bid(0, 4), 1);
            is(x, "need(0, 3)", x.need(0, 3), 4);
            is(x, "one ROOM more", Edges.bidBits(x, 0), 16);
            HomesQueue y = Edges.told("home a 1 0;home b 2 0;home c 2 0;house p 1 1 0 500 c;");
            Edges.bid(y, 0, 0, 1);
            y.need(0, 2);
            is(y, "one that FITS and is no WISH stays", Edges.bidBits(y, 0), 2);
        });
        Edges.edge(44, "what it was (1; 2; 4).", () -> {
            HomesQueue x = FOUR.make();
            for (int need = 2; need <= 4; need++) {
                is(x, "need(0, " + need + ")", x.need(0, need), need - 1);
                is(x, "NEED", x.house(0, 2), need);
            }
            is(x, "need(0, 1)", x.need(0, 1), 4);
            for (int need : new int[] {0, 5, -1, Edges.MIN, Edges.MAX}) {
                Edges.refused(FOUR, "need(0, " + need + ")", 1, y -> y.need(0, need));
                Edges.refused(FOUR, "1 ahead of 2", 1, y -> y.need(4, need));
            }
            for (int house : NO_HOUSE) {
                Edges.refused(FOUR, "need(" + house + ", 1)", 2, y -> y.need(house, 1));
                Edges.refused(FOUR, "need(" + house + ", 4)", 2, y -> y.need(house, 4));
            }
            Edges.refused(FOUR, "so already", 4, y -> y.need(0, 1));
            Edges.refused(FOUR, "so already", 4, y -> y.need(3, 2));
        });
    }

    private static void ruling() {
        Edges.edge(45, "what it was (1: what, a number that could not be told; 4)", () -> {
            for (int what = 0; what < 6; what++) {
                int w = what;
                HomesQueue x = new HomesQueue();
                int was = WITHOUT[what];
                for (int n : new int[] {LEAST[what], MOST[what], LEAST[what] + 1, MOST[what] - 1, LEAST[what]}) {
                    if (n != was) {
                        is(x, "rules(" + what + ", " + n + ")", x.rules(what, n), was);
                        is(x, "rule(" + what + ")", x.rule(what), n);
                        was = n;
                    }
                }
                for (int n : new int[] {LEAST[what] - 1, MOST[what] + 1, -1, Edges.MIN, Edges.MAX}) {
                    Edges.refused(FOUR, "rules(" + what + ", " + n + ")", 1, y -> y.rules(w, n));
                }
                Edges.refused(HomesQueue::new, "so already", 4, y -> y.rules(w, WITHOUT[w]));
            }
            for (int what : new int[] {-1, 6, Edges.MIN, Edges.MAX}) {
                for (int n : new int[] {0, 1, 3}) {
                    Edges.refused(FOUR, "rules(" + what + ", " + n + ")", 1, y -> y.rules(what, n));
                }
            }
        });
        Edges.edge(45, "A rule (as rule()) is another one", () -> {
            HomesQueue x = Edges.told("rule bids 3;home a 1 0;home b 1 0;home c 1 0;house p 1 1 0 500;");
            Edges.bid(x, 0, 0, 1, 2);
            is(x, "BIDS 1", x.rules(5, 1), 3);
            is(x, "BIDS there are stay", x.many(4), 3);
            is(x, "other rules stay", x.rule(0) * 100 + x.rule(1) * 10 + x.rule(2), 340);
        });
    }

    private static void undoing() {
        Edges.edge(0, "the latest one not undone yet goes back", () -> {
            Edges.Call[] acts = {x -> x.bid(3, 2), x -> x.unbid(0, 1), x -> x.auto(), x -> x.week(), x -> x.wish(0, 2),
                x -> x.unwish(1, 3), x -> x.leave(3), x -> x.leave(0), x -> x.rules(3, 7), x -> x.shut(1, true),
                x -> x.shut(3, true), x -> x.need(0, 4)};
            String before = Edges.picture(FOUR.make());
            for (int i = 0; i < acts.length; i++) {
                HomesQueue x = FOUR.make();
                if (acts[i].on(x) == NONE) {
                    Edges.blame("act " + i + " has STATUS " + x.status());
                }
                is(x, "ACTS behind act " + i, x.many(7), 5);
                is(x, "undo() of act " + i, x.undo(), 4);
                Edges.due("all of it, act " + i, Edges.picture(x), before);
                HomesQueue once = FOUR.make();
                acts[i].on(once);
                String between = Edges.picture(once) + Edges.could(once);
                for (Edges.Call act : acts) {
                    HomesQueue z = FOUR.make();
                    acts[i].on(z);
                    if (act.on(z) != NONE) {
                        z.undo();
                    }
                    Edges.due("the second of two, act " + i, Edges.picture(z) + Edges.could(z), between);
                }
            }
            passedOverGoesBack();
            // Two undone, then another one: the next undo() takes that back, the one behind it the first.
            HomesQueue y = new HomesQueue();
            y.rules(0, 5);
            y.rules(0, 6);
            y.rules(0, 7);
            is(y, "undo()", y.undo(), 2);
            is(y, "undo()", y.undo(), 1);
            y.rules(0, 8);
            is(y, "undo()", y.undo(), 1);
            is(y, "REFUSE", y.rule(0), 5);
            is(y, "undo()", y.undo(), 0);
            is(y, "REFUSE", y.rule(0), 3);
        });
        Edges.edge(0, "ACTS: bid(), unbid(), auto(), week(), wish(), unwish(), leave(), rules(), shut(), need().", () -> {
            HomesQueue x = FOUR.make();
            int acts = 4;
            Edges.Call[] all = {y -> y.bid(3, 2), y -> y.unbid(0, 1), y -> y.auto(), y -> y.week(), y -> y.wish(0, 3),
                y -> y.unwish(0, 3), y -> y.leave(1), y -> y.rules(4, 7)};
            for (Edges.Call act : all) {
                Edges.due("STATUS of an act", act.on(x) == NONE ? x.status() : 0, 0);
                acts++;
                is(x, "ACTS", x.many(7), acts);
            }
            HomesQueue z = FOUR.make();
            z.shut(2, true);
            is(z, "shut()", z.many(7), 5);
            z.need(0, 2);
            is(z, "need()", z.many(7), 6);
            z.print();
            z.feed(1, 2, 3, 4, 5);
            Edges.could(z);
            is(z, "questions and print() are none", z.many(7), 6);
            z.load(20);
            is(z, "a load() of a FAULT is none", z.many(7), 6);
            z.undo();
            is(z, "undo() is none", z.many(7), 5);
        });
        Edges.edge(0, "12 are kept", () -> {
            for (int acts : new int[] {11, 12, 13, 24, 25, 40}) {
                HomesQueue x = new HomesQueue();
                for (int i = 0; i < acts; i++) {
                    x.rules(4, i + 1);
                }
                int kept = Math.min(acts, 12);
                is(x, "ACTS of " + acts, x.many(7), kept);
                for (int i = 1; i <= kept; i++) {
                    is(x, "undo() " + i, x.undo(), kept - i);
                    is(x, "AGE", x.rule(4), acts - i == 0 ? 999 : acts - i);
                }
                not(x, "one more", x.undo(), 5);
            }
        });
        Edges.edge(46, "UNDO: how many more can be (5).", () -> {
            Edges.refused(HomesQueue::new, "none yet", 5, x -> x.undo());
            Edges.refused(() -> {
                HomesQueue x = new HomesQueue();
                x.week();
                x.undo();
                return x;
            }, "all undone", 5, x -> x.undo());
            Edges.refused(() -> {
                HomesQueue x = FOUR.make();
                Edges.undo(x, 4);
                return x;
            }, "all four undone", 5, x -> x.undo());
            HomesQueue x = FOUR.make();
            for (int i = 3; i >= 0; i--) {
                is(x, "undo()", x.undo(), i);
            }
            is(x, "WEEK", x.many(2), 0);
            is(x, "LETS", x.many(3), 0);
        });
    }

    private static void passedOverGoesBack() {
        HomesQueue x = Edges.told("rule local 1;home a 1 1;house p 1 1 0 500;house q 2 1 1 500;");
        x.auto();
        x.week();
        is(x, "p is PASSED OVER", x.house(0, 11) * 10 + x.tally(4), 11);
        x.undo();
        is(x, "that goes back", x.house(0, 11) * 10 + x.tally(4), 0);
        x.week();
        is(x, "and comes again", x.house(0, 11) * 10 + x.tally(4), 11);
        // CHAIN 2 of the HOME that was left by a LET, with a WEEK undone between.
        HomesQueue y = Edges.told("home a 1 0;home b 1 0;house p 1 1 0 500 in b a;house q 1 1 0 500 b;");
        Edges.bid(y, 0, 0);
        y.week();
        y.week();
        y.undo();
        Edges.bid(y, 1, 1);
        y.week();
        is(y, "CHAIN", y.let(1, 3), 2);
        Edges.undo(y, 4);
        y.leave(0);
        y.week();
        Edges.bid(y, 1, 1);
        y.week();
        is(y, "CHAIN of the same HOME, left otherwise", y.let(0, 3), 1);
    }

    private static void duePrinted(HomesQueue x, String want) {
        Edges.due("print()", Edges.printed(x), want);
        is(x, "how many bytes", x.print(), want.length());
    }

    private static void printing() {
        Edges.edge(47, "the rules (all, in the order of rule()), the HOMES, then the HOUSES that are not OUT", () -> {
            duePrinted(new HomesQueue(), RULES);
            HomesQueue x = Edges.told("house p 1 1 0 000;rule bids 1;home a 4 7;house q 4 4 7 999;home b 1 0;");
            duePrinted(x, RULES.replace("bids 2", "bids 1")
                    + "home a 4 7;home b 1 0;house p 1 1 0 0;house q 4 4 7 999;");
            x.leave(0);
            x.rules(3, 100);
            duePrinted(x, RULES.replace("bids 2", "bids 1").replace("quota 0", "quota 100")
                    + "home a 4 7;home b 1 0;house q 4 4 7 999;");
            x.leave(1);
            duePrinted(x, RULES.replace("bids 2", "bids 1").replace("quota 0", "quota 100") + "home a 4 7;home b 1 0;");
        });
        Edges.edge(47, "HOMES that are SHUT, or in which one lives that is OUT, are left out, and WISHES of such (and"
                + " that one lives in one that is SHUT)", () -> {
            HomesQueue x = Edges.told("home a 1 0;home b 1 0;home c 1 0;home d 1 0;house o 1 1 0 500;"
                    + "house p 1 1 0 500 in b a b c d;house q 1 1 0 500 in c c b;");
            Edges.bid(x, 0, 0);
            x.week();
            duePrinted(x, RULES + "home b 1 0;home c 1 0;home d 1 0;house p 1 1 0 500 in b b c d;"
                    + "house q 1 1 0 500 in c c b;");
            x.shut(1, true);
            duePrinted(x, RULES + "home c 1 0;home d 1 0;house p 1 1 0 500 c d;house q 1 1 0 500 in c c;");
            x.shut(2, true);
            x.shut(3, true);
            duePrinted(x, RULES + "house p 1 1 0 500;house q 1 1 0 500;");
            x.shut(2, false);
            x.leave(2);
            duePrinted(x, RULES + "home c 1 0;house p 1 1 0 500 c;");
        });
        Edges.edge(47, "(TOKENS with one blank ahead, but for the first of each LINE and ;)", () -> {
            HomesQueue x = Edges.told("  home\n\na   1 \n 0 ;house  p 01 001 0\n\n050   in a  a ; rule age 01;");
            duePrinted(x, RULES.replace("age 999", "age 1") + "home a 1 0;house p 1 1 0 50 in a a;");
            String again = Edges.printed(x);
            duePrinted(Edges.told(again), again);
            for (int n : new int[] {0, 1, 9, 10, 11, 19, 90, 99, 100, 101, 109, 110, 190, 900, 990, 998, 999}) {
                HomesQueue y = Edges.told("house p 1 1 0 " + n + ";");
                duePrinted(y, RULES + "house p 1 1 0 " + n + ";");
            }
        });
        Edges.edge(47, "how many bytes.", () -> {
            // The longest there is: more bytes than a TEXT may have.
            StringBuilder b = new StringBuilder(Edges.lines("home hhhhhhh", 10, " 1 0;"));
            for (int i = 0; i < 8; i++) {
                b.append("house ppppppp").append((char) ('a' + i)).append(" 1 1 0 999 in hhhhhhh").append((char) ('a' + i)).append(';');
            }
            HomesQueue x = Edges.told(b.toString());
            for (int i = 0; i < 8; i++) {
                for (int k = 0; k < 6; k++) {
                    x.wish(i, k + 4);
                }
            }
            x.rules(1, 52);
            x.rules(3, 100);
            int bytes = 79 + 10 * 18 + 8 * 91;
            is(x, "print()", x.print(), bytes);
            Edges.due("the last", Edges.out(x, bytes - 1), ';');
            Edges.due("ahead of it", Edges.out(x, bytes - 2), 'j');
            Edges.due("behind it", Edges.out(x, bytes), Edges.THROWN);
        });
    }

    private static void outs() {
        Edges.edge(48, "NoSuchElementException: OUT has not so many, i is below 0, there is none yet.", () -> {
            HomesQueue x = new HomesQueue();
            for (int i : new int[] {0, 1, -1, Edges.MIN, Edges.MAX}) {
                Edges.due("none yet, out(" + i + ")", Edges.out(x, i), Edges.THROWN);
            }
            x.print();
            for (int i = 0; i < 76; i++) {
                Edges.due("out(" + i + ")", Edges.out(x, i), RULES.charAt(i));
            }
            for (int i : new int[] {76, 77, 1000, 1024, -1, -2, Edges.MIN, Edges.MAX}) {
                Edges.due("out(" + i + ")", Edges.out(x, i), Edges.THROWN);
            }
        });
        Edges.edge(48, "Byte i of OUT.", () -> {
            HomesQueue x = FOUR.make();
            int longer = x.print();
            x.leave(0);
            Edges.due("OUT is of the latest print()", Edges.out(x, longer - 1), ';');
            int shorter = x.print();
            Edges.due("a shorter one", shorter < longer ? 1 : 0, 1);
            Edges.due("its last", Edges.out(x, shorter - 1), ';');
            Edges.due("nothing of the longer one", Edges.out(x, shorter), Edges.THROWN);
            x.undo();
            x.load(0);
            x.bid(9, 9);
            Edges.due("behind undo(), load(), a refused call", Edges.out(x, shorter - 1), ';');
            Edges.due("and no longer", Edges.out(x, shorter), Edges.THROWN);
        });
    }
}
