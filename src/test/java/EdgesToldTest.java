/** The edges of the queue itself (==== 2.), and of the promises 6 to 18. */
public final class EdgesToldTest {
    private static final int NONE = Edges.NONE;

    // Two FREE HOMES and one that is lived in; p and q have no HOME, r has.
    private static final Edges.Making THREE = () -> Edges.told("home a 2 1;home b 3 1;home c 2 2;"
            + "house p 2 2 1 500 a b;house q 1 2 2 450;house r 3 2 1 600 in c b;");

    // A WEEK has ended in which p TOOK a, ahead of r; in the next one q BIDS for b.
    private static final Edges.Making LATER = () -> {
        HomesQueue x = THREE.make();
        Edges.bid(x, 0, 0);
        Edges.bid(x, 2, 0);
        x.rules(2, 1);
        x.week();
        Edges.bid(x, 1, 1);
        return x;
    };

    public static void main(String[] args) throws Exception {
        Edges.begin();
        daysAndRooms();
        mayBid();
        turnsOfOrder();
        restOfOrder();
        offersOfAWeek();
        takenAndRefused();
        passedOver();
        nextWeek();
        counts();
        homes();
        houses();
        rulesWhyBids();
        orders();
        letsAndOffers();
        tallies();
        Edges.end("EdgesToldTest", 6, 18);
    }

    private static void is(HomesQueue x, String call, int got, int want) {
        Edges.is(x, call, got, want);
    }

    private static void not(HomesQueue x, String call, int got, int status) {
        Edges.not(x, call, got, status);
    }

    // ---- ==== 2.

    private static void daysAndRooms() {
        Edges.edge(0, "An object is used for at most 512 calls after it has been made", () -> {
            HomesQueue x = new HomesQueue();
            Edges.weeks(x, 511);
            Edges.due("the 512th call", x.many(2), 511);
            // Two of feed(), one of load(), and 126 rounds of four calls are 507.
            HomesQueue y = Edges.told("home a 1 0;home b 1 0;house p 1 1 0 0 b;");
            for (int i = 0; i < 126; i++) {
                y.bid(0, 0);
                y.week();
                y.status();
                y.status();
            }
            // Of seven WEEKS each it REFUSES in three and is BARRED in four.
            Edges.due("REFUSALS in all", y.many(8), 126 / 7 * 3);
        });
        Edges.edge(0, "WEEK 0 is the first.", () -> {
            HomesQueue x = THREE.make();
            is(x, "WEEK", x.many(2), 0);
            x.auto();
            x.week();
            is(x, "WEEK of the first LET", x.let(0, 2), 0);
            is(x, "WEEK", x.many(2), 1);
        });
        Edges.edge(0, "A HOME is FREE if nobody lives in it, it isn't left in this WEEK and it isn't SHUT.", () -> {
            HomesQueue x = THREE.make();
            is(x, "nobody lives in it", x.home(0, 3), 1);
            is(x, "one lives in it", x.home(2, 3), 0);
            x.shut(0, true);
            is(x, "SHUT", x.home(0, 3), 0);
            x.shut(0, false);
            is(x, "no more SHUT", x.home(0, 3), 1);
            x.leave(2);
            is(x, "left in this WEEK", x.home(2, 3), 0);
            x.shut(2, true);
            x.shut(2, false);
            is(x, "left in this WEEK, SHUT and opened", x.home(2, 3), 0);
            x.week();
            is(x, "left in the WEEK before", x.home(2, 3), 1);
            HomesQueue y = THREE.make();
            y.shut(2, true);
            y.leave(2);
            y.week();
            is(y, "left and SHUT", y.home(2, 3), 0);
            y.shut(2, false);
            is(y, "left in a WEEK before, opened", y.home(2, 3), 1);
        });
        Edges.edge(0, "WAITED: 1,000 days and 7 for each WEEK, less DAY.", () -> {
            for (int day : new int[] {0, 1, 500, 999}) {
                for (int week : new int[] {0, 1, 20}) {
                    HomesQueue x = Edges.told("house p 4 1 0 " + day + ";");
                    Edges.weeks(x, week);
                    int waited = 1000 + 7 * week - day;
                    // BAND NOW is told by AGE: as many days are one BAND, a day more none.
                    x.rules(4, Math.min(waited, 999));
                    is(x, "BAND NOW, DAY " + day + ", WEEK " + week, x.house(0, 1), 3);
                    if (waited < 999) {
                        x.rules(4, waited + 1);
                        is(x, "a day more", x.house(0, 1), 4);
                    }
                }
            }
        });
        Edges.edge(0, "BAND NOW: BAND, one less for each AGE days that are WAITED (whole ones), 1 at least.", () -> {
            // 600 days.
            HomesQueue x = Edges.told("house p 4 1 0 400;house q 2 1 0 400;house r 1 1 0 400;");
            int[] ages = {601, 600, 301, 300, 201, 200, 151, 150, 1};
            int[] bands = {4, 3, 3, 2, 2, 1, 1, 1, 1};
            for (int i = 0; i < ages.length; i++) {
                x.rules(4, ages[i]);
                is(x, "AGE " + ages[i], x.house(0, 1), bands[i]);
                is(x, "AGE " + ages[i] + " of BAND 2", x.house(1, 1), ages[i] == 601 ? 2 : 1);
                is(x, "AGE " + ages[i] + " of BAND 1", x.house(2, 1), 1);
                is(x, "BAND stays", x.house(0, 0), 4);
            }
        });
        Edges.edge(0, "A HOME FITS a HOUSE: ROOMS are NEED, or one more.", () -> {
            HomesQueue x = Edges.told("home a 1 0;home b 2 0;home c 3 0;home d 4 0;"
                    + "house p 1 1 0 0;house q 1 2 0 0;house r 1 3 0 0;house s 1 4 0 0;");
            int[] fits = {1 + 2, 2 + 4, 4 + 8, 8};
            for (int house = 0; house < 4; house++) {
                is(x, "fits(" + house + ", 0)", x.fits(house, 0), fits[house]);
                for (int home = 0; home < 4; home++) {
                    is(x, "why(" + house + ", " + home + ")", x.why(house, home), (fits[house] >> home & 1) == 1 ? 0 : 4);
                }
            }
        });
        Edges.edge(0, "A HOUSE is OUT once it took a HOME, or left the queue; BARRED for some WEEKS.", () -> {
            HomesQueue x = LATER.make();
            is(x, "p TOOK a HOME", x.house(0, 8), 1);
            is(x, "q did not", x.house(1, 8), 0);
            x.leave(1);
            is(x, "q left", x.house(1, 8), 1);
            is(x, "r was offered nothing, and is neither", x.house(2, 8) * 10 + x.house(2, 7), 0);
            HomesQueue y = Edges.told("rule refuse 1;rule bar 2;home a 1 0;home b 1 0;house p 1 1 0 500 b;");
            Edges.bid(y, 0, 0);
            y.week();
            is(y, "p is BARRED, not OUT", y.house(0, 8) * 10 + y.house(0, 7), 2);
            Edges.weeks(y, 2);
            is(y, "no more", y.house(0, 8) * 10 + y.house(0, 7), 0);
        });
    }

    private static void mayBid() {
        String text = "rule refuse 1;rule bids 1;home a 2 1;home b 2 1;home c 2 2;home d 4 0;"
                + "house p 2 2 1 500;house q 1 2 2 500 b;house r 3 2 1 500 in c b;";
        Edges.edge(0, "A HOUSE may BID for a HOME; if not, why, the first of: 1 it is OUT", () -> {
            HomesQueue x = Edges.told(text);
            Edges.bid(x, 1, 0);
            x.week();
            is(x, "q is BARRED", x.why(1, 0), 2);
            x.leave(1);
            for (int home = 0; home < 4; home++) {
                is(x, "OUT ahead of BARRED, not FREE, not FIT", x.why(1, home), 1);
            }
        });
        Edges.edge(0, "2 it is BARRED", () -> {
            HomesQueue x = Edges.told(text);
            Edges.bid(x, 1, 0);
            x.week();
            for (int home = 0; home < 4; home++) {
                is(x, "BARRED ahead of not FREE, not FIT", x.why(1, home), 2);
            }
            Edges.weeks(x, 3);
            is(x, "in the last WEEK", x.why(1, 0), 2);
            x.week();
            is(x, "no more", x.why(1, 0), 0);
        });
        Edges.edge(0, "3 the HOME isn't FREE", () -> {
            HomesQueue x = Edges.told(text);
            is(x, "one lives in it", x.why(0, 2), 3);
            is(x, "its own", x.why(2, 2), 3);
            x.shut(3, true);
            is(x, "SHUT ahead of not FIT", x.why(0, 3), 3);
            Edges.bid(x, 0, 0);
            x.shut(1, true);
            is(x, "SHUT ahead of as many as the rule says", x.why(0, 1), 3);
            x.leave(2);
            is(x, "left in this WEEK", x.why(0, 2), 3);
        });
        Edges.edge(0, "4 it does not FIT", () -> {
            HomesQueue x = Edges.told(text);
            is(x, "two ROOMS more", x.why(0, 3), 4);
            Edges.bid(x, 0, 0);
            is(x, "not FIT ahead of as many as the rule says", x.why(0, 3), 4);
        });
        Edges.edge(0, "5 it BIDS for that HOME already", () -> {
            HomesQueue x = Edges.told(text);
            Edges.bid(x, 0, 0);
            is(x, "ahead of as many as the rule says", x.why(0, 0), 5);
            is(x, "another one's BID is none of its own", x.why(1, 0), 0);
        });
        Edges.edge(0, "6 it has BIDS of its own as many as the rule says.", () -> {
            for (int rule = 1; rule <= 3; rule++) {
                HomesQueue x = Edges.told("rule bids " + rule + ";" + Edges.lines("home ", 5, " 1 0;")
                        + "house p 1 1 0 0;house q 1 1 0 0;");
                for (int home = 0; home < 4; home++) {
                    is(x, "BID " + home + " of " + rule, x.why(0, home), home < rule ? 0 : 6);
                    x.bid(0, home);
                }
                is(x, "BIDS", x.house(0, 9), rule);
                is(x, "another HOUSE", x.why(1, 4), 0);
                x.rules(5, rule == 3 ? 1 : rule + 1);
                is(x, "by another rule", x.why(0, 4), rule == 3 ? 6 : 0);
            }
        });
    }

    private static void turnsOfOrder() {
        Edges.edge(0, "(1) LOCAL TURN: LOCAL is above 0, and LETS in its WARD so far and one more divide by LOCAL"
                + " without rest", () -> {
            // Four LETS in WARD 1, one each WEEK; d lies in WARD 2.
            HomesQueue x = Edges.told("home a 1 1;home b 1 1;home c 1 1;home d 1 2;home e 1 1;home f 1 1;"
                    + Edges.lines("house p", 6, " 1 1 0 500;"));
            int[] homes = {0, 1, 2, 4};
            for (int lets = 0; lets <= 4; lets++) {
                for (int local = 0; local <= 9; local++) {
                    x.rules(2, local);
                    boolean turn = local > 0 && (lets + 1) % local == 0;
                    is(x, "LOCAL " + local + ", LETS " + lets, x.turn(5, 0), turn ? 1 : 0);
                    is(x, "another WARD", x.turn(3, 0), local == 1 ? 1 : 0);
                }
                if (lets < 4) {
                    Edges.bid(x, lets, homes[lets]);
                    x.week();
                }
            }
        });
        Edges.edge(0, "HOUSES with a TIE to its WARD go ahead of others", () -> {
            HomesQueue x = Edges.told("home a 1 3;home b 1 3;house p 1 1 0 500 in b;house q 4 1 3 600;house r 4 1 3 550;");
            for (int i = 0; i < 3; i++) {
                Edges.bid(x, i, 0);
            }
            is(x, "no LOCAL TURN", x.order(0, 0), 0);
            x.rules(2, 1);
            is(x, "r", x.order(0, 0), 2);
            is(x, "q", x.order(0, 1), 1);
            is(x, "p", x.order(0, 2), 0);
        });
        Edges.edge(0, "(2) QUOTA TURN: 100 times the LETS to those who lived in a HOME are less than QUOTA times all"
                + " LETS", () -> {
            HomesQueue x = Edges.told("rule quota 100;" + Edges.lines("home ", 5, " 1 0;")
                    + "house p 1 1 0 500 in e;house q 1 1 0 500;house r 1 1 0 500;");
            is(x, "no LETS: 0 is not less than 0", x.turn(0, 1), 0);
            Edges.bid(x, 0, 0);
            x.week();
            is(x, "1 of 1 by QUOTA 100: 100 is not less than 100", x.turn(1, 1), 0);
            Edges.bid(x, 1, 1);
            x.week();
            is(x, "1 of 2 by QUOTA 100", x.turn(2, 1), 1);
            x.rules(3, 51);
            is(x, "1 of 2 by QUOTA 51", x.turn(2, 1), 1);
            x.rules(3, 50);
            is(x, "1 of 2 by QUOTA 50", x.turn(2, 1), 0);
            Edges.bid(x, 2, 2);
            x.week();
            x.rules(3, 33);
            is(x, "1 of 3 by QUOTA 33: 100 is not less than 99", x.turn(3, 1), 0);
            x.rules(3, 34);
            is(x, "1 of 3 by QUOTA 34: 100 is less than 102", x.turn(3, 1), 1);
            HomesQueue z = Edges.told(Edges.lines("home ", 6, " 1 0;")
                    + "house p 1 1 0 500 in e;house q 1 1 0 500 in f;house r 1 1 0 500;");
            for (int i = 0; i < 3; i++) {
                Edges.bid(z, i, i);
            }
            z.week();
            z.rules(3, 66);
            is(z, "2 of 3 by QUOTA 66: 200 is not less than 198", z.turn(3, 1), 0);
            z.rules(3, 67);
            is(z, "2 of 3 by QUOTA 67: 200 is less than 201", z.turn(3, 1), 1);
            HomesQueue y = Edges.told("rule quota 1;home a 1 0;home b 1 0;house p 1 1 0 500;");
            y.auto();
            y.week();
            is(y, "0 of 1 by QUOTA 1", y.turn(1, 1), 1);
            y.rules(3, 0);
            is(y, "0 of 1 by QUOTA 0: 0 is not less than 0", y.turn(1, 1), 0);
        });
        Edges.edge(0, "those who live in one go ahead of others", () -> {
            HomesQueue x = Edges.told("home a 1 0;home b 1 0;home c 1 0;"
                    + "house n 1 1 0 500;house p 1 1 0 500;house q 4 1 0 600 in c;");
            Edges.bid(x, 0, 0);
            x.week();
            Edges.bid(x, 1, 1);
            Edges.bid(x, 2, 1);
            is(x, "no QUOTA TURN", x.order(1, 0), 1);
            x.rules(3, 1);
            is(x, "a QUOTA TURN", x.order(1, 0), 2);
            HomesQueue y = Edges.told("rule local 1;rule quota 100;home a 1 3;home b 1 3;home c 1 3;"
                    + "house n 1 1 0 500;house p 4 1 3 500;house q 1 1 0 600 in c;");
            Edges.bid(y, 0, 0);
            y.week();
            Edges.bid(y, 1, 1);
            Edges.bid(y, 2, 1);
            is(y, "a LOCAL TURN is ahead of a QUOTA TURN", y.order(1, 0), 1);
        });
    }

    private static void restOfOrder() {
        Edges.edge(0, "(3) the lesser BAND NOW", () -> {
            // p has waited 998 days; q 999, one BAND less.
            HomesQueue x = Edges.told("home a 1 0;house p 2 1 0 2;house q 2 1 0 1;house r 2 1 0 999;");
            for (int i = 0; i < 3; i++) {
                Edges.bid(x, i, 0);
            }
            is(x, "q", x.order(0, 0), 1);
            x.rules(4, 1);
            is(x, "all have 1: the lesser DAY", x.order(0, 0), 1);
            HomesQueue y = Edges.told("home a 1 0;house p 3 1 0 500;house q 2 1 0 999;");
            Edges.bid(y, 0, 0);
            Edges.bid(y, 1, 0);
            is(y, "the lesser BAND is ahead of the lesser DAY", y.order(0, 0), 1);
            is(y, "ahead(0, 0)", y.ahead(0, 0), 1);
            is(y, "queue(0)", y.queue(0), 1);
            // BAND NOW 2 of 3, with the least DAY and number there are, and BAND NOW 1 with the greatest DAY.
            HomesQueue z = Edges.told("home a 1 0;house p 3 1 0 0;house q 1 1 0 999;");
            Edges.bid(z, 0, 0);
            Edges.bid(z, 1, 0);
            is(z, "the greatest DAY of the lesser BAND", z.order(0, 0), 1);
        });
        Edges.edge(0, "(4) the lesser DAY", () -> {
            HomesQueue x = Edges.told("home a 1 0;house p 2 1 0 501;house q 2 1 0 500;house r 2 1 0 999;house s 2 1 0 499;");
            int[] order = {3, 1, 0, 2};
            for (int i = 0; i < 4; i++) {
                Edges.bid(x, i, 0);
            }
            for (int i = 0; i < 4; i++) {
                is(x, "order(0, " + i + ")", x.order(0, i), order[i]);
            }
            HomesQueue y = Edges.told("home a 1 0;" + Edges.lines("house p", 7, " 2 1 0 501;") + "house q 2 1 0 500;");
            for (int i = 0; i < 8; i++) {
                Edges.bid(y, i, 0);
            }
            is(y, "a day less, with the greatest number", y.order(0, 0), 7);
        });
        Edges.edge(0, "(5) the lesser number", () -> {
            HomesQueue x = Edges.told("home a 1 0;" + Edges.lines("house p", 8, " 2 1 0 500;"));
            for (int i = 7; i >= 0; i--) {
                Edges.bid(x, i, 0);
            }
            for (int i = 0; i < 8; i++) {
                is(x, "order(0, " + i + ")", x.order(0, i), i);
            }
        });
    }

    private static void offersOfAWeek() {
        Edges.edge(0, "A WEEK ends: HOME by HOME (those FREE now, by numbers)", () -> {
            HomesQueue x = Edges.told("rule bids 3;home a 1 0;home b 1 0;home c 1 0;home d 1 0;house p 1 1 0 500;"
                    + "house q 2 1 0 500 in d;");
            Edges.bid(x, 0, 2, 1);
            Edges.bid(x, 1, 2, 0);
            is(x, "LETS", x.week(), 2);
            is(x, "a is the first, to q", x.let(0, 0) * 10 + x.let(0, 1), 10);
            is(x, "then b, to p", x.let(1, 0) * 10 + x.let(1, 1), 1);
            is(x, "nobody is left for c; d is not FREE in that WEEK", x.many(9), 2);
        });
        Edges.edge(0, "its bidders by ORDER (asked anew for each HOME, with LETS so far)", () -> {
            // The first LET makes the second one of WARD 3 a LOCAL TURN, and a QUOTA TURN.
            HomesQueue x = Edges.told("rule local 2;home a 1 3;home b 1 3;house p 1 1 0 500;house q 2 1 0 500;"
                    + "house r 4 1 3 500;");
            x.auto();
            x.week();
            is(x, "p has a", x.let(0, 0), 0);
            is(x, "r has b, by a LOCAL TURN", x.let(1, 0) * 10 + x.let(1, 4), 21);
            HomesQueue y = Edges.told("rule quota 1;home a 1 3;home b 1 3;home c 1 0;house p 1 1 0 500;"
                    + "house q 2 1 0 500;house r 4 1 3 500 in c;");
            y.auto();
            y.week();
            is(y, "p has a", y.let(0, 0), 0);
            is(y, "r has b, by a QUOTA TURN", y.let(1, 0) * 10 + y.let(1, 5), 21);
        });
        Edges.edge(0, "but those who are OUT or BARRED by then", () -> {
            HomesQueue x = Edges.told("rule refuse 1;rule bids 3;" + Edges.lines("home ", 3, " 1 0;")
                    + "house o 1 1 0 500 b;house p 1 1 0 500;house q 4 1 0 500;");
            Edges.bid(x, 0, 0, 1, 2);
            Edges.bid(x, 1, 0, 1);
            Edges.bid(x, 2, 1, 2);
            // a: o REFUSES and is BARRED, p TAKES it; b: o is BARRED, p OUT, q TAKES it; c: nobody is left.
            is(x, "LETS", x.week(), 2);
            is(x, "OFFERS", x.many(9), 3);
            is(x, "q has b by its first OFFER", x.let(1, 0) * 10 + x.let(1, 6), 21);
            is(x, "o has not been offered b, a WISH", x.house(0, 8), 0);
        });
        Edges.edge(0, "3 OFFERS at most", () -> {
            for (int refusing = 0; refusing <= 4; refusing++) {
                HomesQueue x = Edges.told("home a 1 0;home b 1 0;" + Edges.lines("house p", 4, " 1 1 0 500 b;")
                        + "house q 2 1 0 500;");
                for (int i = 0; i < refusing; i++) {
                    Edges.bid(x, i, 0);
                }
                Edges.bid(x, 4, 0);
                is(x, "LETS behind " + refusing, x.week(), refusing < 3 ? 1 : 0);
                is(x, "OFFERS behind " + refusing, x.many(9), Math.min(refusing + 1, 3));
                is(x, "WEEKS as FREE", x.home(0, 7), refusing < 3 ? 0 : 1);
            }
            // Who is BARRED by then is no OFFER of the three.
            HomesQueue y = Edges.told("rule refuse 1;rule bids 2;home a 1 0;home b 1 0;home c 1 0;"
                    + Edges.lines("house p", 3, " 1 1 0 500 c;") + "house q 2 1 0 500;");
            for (int i = 0; i < 3; i++) {
                Edges.bid(y, i, 0, 1);
            }
            Edges.bid(y, 3, 1);
            is(y, "q TAKES b by its first OFFER", y.week(), 1);
            is(y, "OFFERS", y.many(9), 4);
            is(y, "OFFER", y.let(0, 6), 1);
        });
    }

    private static void takenAndRefused() {
        Edges.edge(0, "One TAKES it, if it has no WISHES, or it is one of them; else it REFUSES", () -> {
            for (String wishes : new String[] {"", " a", " b c d e f a", " b", " b c d e f g"}) {
                HomesQueue x = Edges.told(Edges.lines("home ", 7, " 1 0;") + "house p 1 1 0 500" + wishes + ";");
                boolean takes = wishes.isEmpty() || wishes.endsWith("a");
                Edges.bid(x, 0, 0);
                is(x, "LETS, WISHES" + wishes, x.week(), takes ? 1 : 0);
                is(x, "REFUSALS", x.many(8), takes ? 0 : 1);
                is(x, "TAKEN", x.offer(0, 2), takes ? 1 : 0);
            }
        });
        Edges.edge(0, "if they are REFUSE then, it is BARRED for BAR WEEKS behind this one (and for what is left of"
                + " this one), and has 0", () -> {
            for (int refuse : new int[] {1, 2, 9}) {
                HomesQueue x = Edges.told("rule refuse " + refuse + ";home a 1 0;home b 1 0;house p 1 1 0 500 b;");
                for (int i = 1; i < refuse; i++) {
                    Edges.bid(x, 0, 0);
                    x.week();
                    is(x, "REFUSALS of " + refuse, x.house(0, 6), i);
                    is(x, "BARRED", x.house(0, 7), 0);
                }
                Edges.bid(x, 0, 0);
                x.week();
                is(x, "REFUSALS that count", x.house(0, 6), 0);
                is(x, "BARRED", x.house(0, 7), 4);
                is(x, "REFUSALS in all", x.many(8), refuse);
            }
            for (int bar : new int[] {1, 52}) {
                HomesQueue x = Edges.told("rule refuse 1;rule bar " + bar + ";home a 1 0;home b 1 0;house p 1 1 0 500 b;");
                Edges.bid(x, 0, 0, 1);
                is(x, "for what is left of this one: not offered b", x.week(), 0);
                for (int left = bar; left > 0; left--) {
                    is(x, "WEEKS of " + bar, x.house(0, 7), left);
                    x.week();
                }
                is(x, "BARRED no more", x.house(0, 7), 0);
                is(x, "may BID", x.why(0, 1), 0);
            }
            // Two REFUSALS within one WEEK are enough.
            HomesQueue y = Edges.told("rule refuse 2;home a 1 0;home b 1 0;home c 1 0;house p 1 1 0 500 c;");
            Edges.bid(y, 0, 0, 1);
            y.week();
            is(y, "BARRED", y.house(0, 7), 4);
            is(y, "REFUSALS in all", y.many(8), 2);
        });
        Edges.edge(0, "TAKEN is a LET: it lives there from now on, is OUT; the HOME it lived in is FREE from the next"
                + " WEEK on.", () -> {
            HomesQueue x = Edges.told("home a 1 0;home b 1 0;house p 1 1 0 500 in a b;house q 1 1 0 600;");
            Edges.bid(x, 0, 1);
            is(x, "LETS", x.week(), 1);
            is(x, "it lives there", x.home(1, 2), 0);
            is(x, "where", x.house(0, 5), 1);
            is(x, "OUT", x.house(0, 8), 1);
            not(x, "nobody lives in a", x.home(0, 2), 5);
            is(x, "a is FREE", x.home(0, 3), 1);
            is(x, "a had no WEEK as FREE", x.home(0, 7), 0);
            Edges.bid(x, 1, 0);
            is(x, "a LET of a", x.week(), 1);
        });
        Edges.edge(0, "CHAIN of a LET: 1, or one more than that of the LET by which its HOME came free (or 1, if it"
                + " came free otherwise).", () -> {
            // a, b, .. h: each moves to the HOME ahead of its own.
            StringBuilder b = new StringBuilder(Edges.lines("home ", 9, " 1 0;"));
            for (int i = 0; i < 8; i++) {
                b.append("house p").append((char) ('a' + i)).append(" 1 1 0 500 in ").append((char) ('b' + i)).append(';');
            }
            HomesQueue x = Edges.told(b.toString());
            for (int i = 0; i < 8; i++) {
                Edges.bid(x, i, i);
                x.week();
                is(x, "CHAIN " + i, x.let(i, 3), i + 1);
            }
            is(x, "the greatest", x.tally(0), 8);
            HomesQueue y = Edges.told("home a 1 0;home b 1 0;house p 1 1 0 500 in a;house q 1 1 0 500;house r 1 1 0 500 in b;");
            y.leave(0);
            y.week();
            Edges.bid(y, 1, 0);
            y.week();
            is(y, "its HOME was left by who left the queue", y.let(0, 3), 1);
        });
    }

    private static void passedOver() {
        Edges.edge(0, "PASSED OVER is each HOUSE that BIDS for that HOME, is not OUT and not BARRED by then, and has a"
                + " lesser BAND NOW than who TAKES it", () -> {
            // A LOCAL TURN: t, of BAND 3, TAKES b.
            HomesQueue x = Edges.told("rule local 1;rule refuse 1;home a 1 1;home b 1 2;"
                    + "house p 2 1 1 500;house q 2 1 0 500 b;house r 2 1 0 500;house s 3 1 0 500;house t 3 1 2 600;"
                    + "house u 1 1 0 500;house v 4 1 0 500;");
            Edges.bid(x, 0, 0, 1);
            Edges.bid(x, 2, 1);
            Edges.bid(x, 3, 1);
            Edges.bid(x, 4, 1);
            Edges.bid(x, 6, 1);
            is(x, "LETS", x.week(), 2);
            is(x, "t has b", x.home(1, 2), 4);
            int[] passed = {0, 0, 1, 0, 0, 0, 0};
            // p is OUT by then, r has a lesser BAND, s the same, t TAKES it, q and u do not BID, v has a greater.
            for (int i = 0; i < 7; i++) {
                is(x, "PASSED OVER of " + i, x.house(i, 11), passed[i]);
            }
            is(x, "in all", x.tally(4), 1);
            HomesQueue y = Edges.told("rule local 1;rule refuse 1;home a 1 0;home b 1 2;home c 1 0;"
                    + "house q 2 1 0 500 b;house t 3 1 2 600;");
            Edges.bid(y, 0, 0, 1);
            Edges.bid(y, 1, 1);
            is(y, "LETS", y.week(), 1);
            is(y, "q is BARRED by then", y.house(0, 11), 0);
        });
        Edges.edge(0, "once for each such LET", () -> {
            HomesQueue x = Edges.told("rule local 1;rule bids 3;" + Edges.lines("home ", 4, " 1 1;")
                    + "house p 1 1 0 500;house q 2 1 1 500;house r 3 1 1 600;house s 4 1 1 600;");
            Edges.bid(x, 0, 0, 1);
            Edges.bid(x, 1, 0);
            Edges.bid(x, 2, 1);
            is(x, "two LETS", x.week(), 2);
            is(x, "p, for each", x.house(0, 11), 2);
            Edges.bid(x, 0, 2);
            Edges.bid(x, 3, 2);
            x.week();
            is(x, "once more", x.house(0, 11), 3);
            is(x, "in all", x.tally(4), 3);
        });
    }

    private static void nextWeek() {
        Edges.edge(0, "Then all BIDS are gone, it is the next WEEK; who is BARRED has one WEEK less to go (not who"
                + " came to be in this one).", () -> {
            HomesQueue x = Edges.told("rule refuse 1;rule bar 3;home a 1 0;home b 1 0;house p 1 1 0 500 b;"
                    + "house q 1 1 0 500 b;house r 4 4 0 500;");
            Edges.bid(x, 0, 0);
            x.week();
            is(x, "p came to be in this one", x.house(0, 7), 3);
            Edges.bid(x, 1, 0);
            is(x, "BIDS", x.many(4), 1);
            x.week();
            is(x, "p has one less", x.house(0, 7), 2);
            is(x, "q came to be in this one", x.house(1, 7), 3);
            is(x, "r never", x.house(2, 7), 0);
            is(x, "BIDS are gone", x.many(4), 0);
            is(x, "WEEK", x.many(2), 2);
            Edges.weeks(x, 2);
            is(x, "p no more", x.house(0, 7), 0);
            is(x, "q for one", x.house(1, 7), 1);
            Edges.weeks(x, 2);
            is(x, "p is not below 0", x.house(0, 7), 0);
        });
    }

    // ---- what is told

    private static void counts() {
        Edges.edge(6, "What 0: HOMES, 1: HOUSES, 2: the WEEK, 3: LETS, 4: BIDS", () -> {
            HomesQueue x = Edges.told("rule bids 3;" + Edges.lines("home ", 10, " 1 0;")
                    + Edges.lines("house p", 8, " 1 1 0 500;"));
            is(x, "ten HOMES", x.many(0), 10);
            is(x, "eight HOUSES", x.many(1), 8);
            is(x, "no LETS", x.many(3), 0);
            is(x, "no BIDS", x.many(4), 0);
            x.auto();
            is(x, "three BIDS each", x.many(4), 24);
            x.week();
            is(x, "three LETS", x.many(3), 3);
            is(x, "BIDS are gone", x.many(4), 0);
            is(x, "WEEK 1", x.many(2), 1);
            is(x, "HOMES that are lived in count", x.many(0), 10);
            is(x, "HOUSES that are OUT count", x.many(1), 8);
            x.auto();
            x.week();
            x.auto();
            x.week();
            is(x, "all eight LETS", x.many(3), 8);
        });
        Edges.edge(6, "9: OFFERS of the latest WEEK that ended (0 ahead of any)", () -> {
            HomesQueue x = THREE.make();
            is(x, "ahead of any", x.many(9), 0);
            x.auto();
            is(x, "ahead of any, with BIDS", x.many(9), 0);
            x.week();
            is(x, "of the first", x.many(9), 2);
            x.week();
            is(x, "of the next", x.many(9), 0);
            x.undo();
            is(x, "of the first again", x.many(9), 2);
            Edges.undo(x, 1);
            is(x, "ahead of any again", x.many(9), 0);
            // Ten HOMES, each offered to three who REFUSE it: REFUSE and BIDS let it be only for some.
            HomesQueue y = Edges.told("rule refuse 9;rule bids 3;" + Edges.lines("home ", 10, " 1 0;")
                    + Edges.lines("house p", 8, " 1 1 0 500 j;"));
            for (int i = 0; i < 8; i++) {
                Edges.bid(y, i, i / 3 * 3, i / 3 * 3 + 1, i / 3 * 3 + 2);
            }
            y.week();
            is(y, "24 OFFERS", y.many(9), 24);
            is(y, "24 REFUSALS", y.many(8), 24);
            is(y, "the last OFFER", y.offer(23, 0) * 10 + y.offer(23, 1), 78);
            not(y, "one more", y.offer(24, 0), 2);
        });
        Edges.edge(6, "7: ACTS that can be undone", () -> {
            HomesQueue x = THREE.make();
            for (int i = 1; i <= 15; i++) {
                x.shut(0, i % 2 == 1);
                is(x, "ACTS of " + i, x.many(7), Math.min(i, 12));
            }
            for (int i = 11; i >= 0; i--) {
                x.undo();
                is(x, "ACTS", x.many(7), i);
            }
        });
        Edges.edge(6, "5: FREE HOMES, 6: HOUSES that are not OUT", () -> {
            HomesQueue x = THREE.make();
            is(x, "FREE", x.many(5), 2);
            is(x, "not OUT", x.many(6), 3);
            x.leave(2);
            is(x, "FREE: c is left in this WEEK", x.many(5), 2);
            is(x, "not OUT", x.many(6), 2);
            x.week();
            is(x, "FREE: c, too", x.many(5), 3);
            HomesQueue y = Edges.told(Edges.lines("home ", 10, " 1 0;") + Edges.lines("house p", 8, " 1 1 0 0;"));
            is(y, "all ten are FREE", y.many(5), 10);
            is(y, "all eight wait", y.many(6), 8);
        });
        Edges.edge(6, "8: REFUSALS in all", () -> {
            HomesQueue x = Edges.told("rule refuse 1;rule bar 1;home a 1 0;home b 1 0;house p 1 1 0 500 b;");
            for (int i = 1; i <= 3; i++) {
                Edges.bid(x, 0, 0);
                x.week();
                x.week();
                is(x, "in all, though none counts", x.many(8) * 10 + x.house(0, 6), i * 10);
            }
        });
        Edges.edge(6, "(0 ahead of any) (1).", () -> {
            for (int what : new int[] {-1, 10, 11, Edges.MIN, Edges.MAX}) {
                Edges.refused(LATER, "many(" + what + ")", 1, x -> x.many(what));
            }
        });
    }

    private static void homes() {
        Edges.edge(7, "2: who lives in it (5: nobody)", () -> {
            HomesQueue x = THREE.make();
            not(x, "nobody", x.home(0, 2), 5);
            is(x, "r", x.home(2, 2), 2);
            x.shut(2, true);
            is(x, "r, in one that is SHUT", x.home(2, 2), 2);
            x.leave(2);
            not(x, "nobody", x.home(2, 2), 5);
            Edges.refused(THREE, "home(0, 2)", 5, y -> y.home(0, 2));
            HomesQueue z = Edges.told("home a 1 0;house p 1 1 0 0 in a;");
            is(z, "HOUSE 0", z.home(0, 2), 0);
        });
        Edges.edge(7, "4: how many BID for it, 5: LETS of it so far", () -> {
            HomesQueue x = Edges.told("home a 1 0;" + Edges.lines("house p", 8, " 1 1 0 500;"));
            is(x, "none", x.home(0, 4), 0);
            for (int i = 0; i < 8; i++) {
                Edges.bid(x, i, 0);
                is(x, "how many BID", x.home(0, 4), i + 1);
            }
            is(x, "no LET", x.home(0, 5), 0);
            x.week();
            is(x, "LETS", x.home(0, 5), 1);
            is(x, "none BIDS", x.home(0, 4), 0);
        });
        Edges.edge(7, "7: WEEKS that ended while it was FREE (as they began, and nobody TOOK it)", () -> {
            HomesQueue x = THREE.make();
            is(x, "ahead of any", x.home(0, 7), 0);
            x.shut(1, true);
            Edges.bid(x, 2, 0);
            x.week();
            is(x, "a was offered, and REFUSED", x.home(0, 7), 1);
            is(x, "b was SHUT", x.home(1, 7), 0);
            is(x, "c was lived in", x.home(2, 7), 0);
            x.leave(2);
            x.week();
            is(x, "c was left in that WEEK", x.home(2, 7), 0);
            x.week();
            is(x, "c was FREE", x.home(2, 7), 1);
            Edges.bid(x, 0, 0);
            x.week();
            is(x, "a was TAKEN in the fourth", x.home(0, 7), 3);
            x.week();
            is(x, "a is lived in", x.home(0, 7), 3);
            Edges.undo(x, 1);
            is(x, "c, with a WEEK undone", x.home(2, 7), 2);
        });
        Edges.edge(7, "and nobody TOOK it) (1; 2).", () -> {
            for (int what : new int[] {-1, 8, Edges.MIN, Edges.MAX}) {
                Edges.refused(LATER, "home(0, " + what + ")", 1, x -> x.home(0, what));
                Edges.refused(LATER, "1 ahead of 2", 1, x -> x.home(3, what));
            }
            for (int home : new int[] {-1, 3, 10, Edges.MIN, Edges.MAX}) {
                for (int what : new int[] {0, 2, 7}) {
                    Edges.refused(LATER, "home(" + home + ", " + what + ")", 2, x -> x.home(home, what));
                }
            }
        });
    }

    private static void houses() {
        Edges.edge(8, "5: the HOME in which it lives (5: none)", () -> {
            HomesQueue x = THREE.make();
            not(x, "none", x.house(0, 5), 5);
            is(x, "c", x.house(2, 5), 2);
            x.leave(2);
            not(x, "none", x.house(2, 5), 5);
            HomesQueue y = Edges.told("home a 1 0;house p 1 1 0 0 in a;");
            is(y, "HOME 0", y.house(0, 5), 0);
        });
        Edges.edge(8, "6: REFUSALS that count, 7: WEEKS for which it is BARRED yet", () -> {
            HomesQueue x = Edges.told("rule refuse 2;rule bar 1;home a 1 0;home b 1 0;house p 1 1 0 500 b;");
            int[][] due = {{1, 0}, {0, 1}, {0, 0}, {1, 0}, {0, 1}};
            for (int i = 0; i < 5; i++) {
                x.bid(0, 0);
                x.week();
                is(x, "REFUSALS behind WEEK " + i, x.house(0, 6), due[i][0]);
                is(x, "BARRED behind WEEK " + i, x.house(0, 7), due[i][1]);
            }
        });
        Edges.edge(8, "9: its BIDS, 10: how many WISHES, 11: how often PASSED OVER", () -> {
            HomesQueue x = Edges.told("rule bids 3;" + Edges.lines("home ", 7, " 1 0;")
                    + "house p 1 1 0 500;house q 1 1 0 500 a b c d e f;");
            is(x, "no BIDS", x.house(0, 9), 0);
            is(x, "no WISHES", x.house(0, 10), 0);
            is(x, "six WISHES", x.house(1, 10), 6);
            Edges.bid(x, 0, 0, 6, 3);
            is(x, "three BIDS", x.house(0, 9), 3);
            is(x, "never", x.house(0, 11), 0);
        });
        Edges.edge(8, "20 and k (k 0 to 5): WISH k (5: not so many)", () -> {
            HomesQueue x = Edges.told(Edges.lines("home ", 7, " 1 0;")
                    + "house p 1 1 0 500 g f e d c b;house q 1 1 0 500 a;house r 1 1 0 500;");
            for (int k = 0; k < 6; k++) {
                is(x, "WISH " + k, x.house(0, 20 + k), 6 - k);
                not(x, "WISH " + k + " of none", x.house(2, 20 + k), 5);
                if (k > 0) {
                    not(x, "WISH " + k + " of one", x.house(1, 20 + k), 5);
                }
            }
            is(x, "WISH 0, HOME 0", x.house(1, 20), 0);
            not(x, "what 26", x.house(0, 26), 1);
            not(x, "what 19", x.house(0, 19), 1);
        });
        Edges.edge(8, "WISH k (5: not so many) (1; 2).", () -> {
            for (int what : new int[] {-1, 12, 13, 19, 26, 27, Edges.MIN, Edges.MAX}) {
                Edges.refused(LATER, "house(0, " + what + ")", 1, x -> x.house(0, what));
                Edges.refused(LATER, "1 ahead of 2", 1, x -> x.house(3, what));
            }
            for (int house : new int[] {-1, 3, 8, Edges.MIN, Edges.MAX}) {
                for (int what : new int[] {0, 5, 11, 20, 25}) {
                    Edges.refused(LATER, "house(" + house + ", " + what + ")", 2, x -> x.house(house, what));
                }
            }
            Edges.refused(LATER, "house(1, 20)", 5, x -> x.house(1, 20));
            Edges.refused(LATER, "house(1, 5)", 5, x -> x.house(1, 5));
        });
    }

    private static void noSuch(String name, EdgeOfTwo call) {
        for (int far : new int[] {-1, 3, 8, 10, Edges.MIN, Edges.MAX}) {
            Edges.refused(LATER, name + " of HOUSE " + far, 2, x -> call.on(x, far, 0));
            Edges.refused(LATER, name + " of HOME " + far, 2, x -> call.on(x, 1, far));
            Edges.refused(LATER, name + " of both", 2, x -> call.on(x, far, far));
        }
    }

    private interface EdgeOfTwo {
        int on(HomesQueue x, int house, int home);
    }

    private static void rulesWhyBids() {
        Edges.edge(9, "BIDS (5) (1).", () -> {
            HomesQueue x = Edges.told("rule refuse 9;rule bar 52;rule local 8;rule quota 100;rule age 1;rule bids 3;");
            int[] rules = {9, 52, 8, 100, 1, 3};
            for (int what = 0; what < 6; what++) {
                is(x, "rule(" + what + ")", x.rule(what), rules[what]);
            }
            for (int what : new int[] {-1, 6, 7, Edges.MIN, Edges.MAX}) {
                Edges.refused(LATER, "rule(" + what + ")", 1, y -> y.rule(what));
            }
        });
        Edges.edge(10, "Why a HOUSE may not BID for a HOME (0: it may) (2).", () -> {
            HomesQueue x = THREE.make();
            is(x, "it may", x.why(0, 0), 0);
            is(x, "the last of each", x.why(2, 2), 3);
            noSuch("why()", (y, house, home) -> y.why(house, home));
        });
        Edges.edge(11, "1 if a HOUSE BIDS for a HOME, else 0 (2).", () -> {
            HomesQueue x = THREE.make();
            is(x, "not yet", x.bids(0, 1), 0);
            Edges.bid(x, 0, 1);
            is(x, "it BIDS", x.bids(0, 1), 1);
            is(x, "another HOUSE", x.bids(1, 1), 0);
            is(x, "another HOME", x.bids(0, 0), 0);
            x.week();
            is(x, "gone", x.bids(0, 1), 0);
            noSuch("bids()", (y, house, home) -> y.bids(house, home));
        });
    }

    private static void orders() {
        Edges.edge(12, "(1: k below 0; 2; 5: not so many)", () -> {
            HomesQueue x = LATER.make();
            is(x, "order(1, 0)", x.order(1, 0), 1);
            not(x, "order(1, 1)", x.order(1, 1), 5);
            for (int k : new int[] {-1, Edges.MIN}) {
                Edges.refused(LATER, "order(1, " + k + ")", 1, y -> y.order(1, k));
                Edges.refused(LATER, "1 ahead of 2", 1, y -> y.order(3, k));
            }
            for (int home : new int[] {-1, 3, 10, Edges.MIN, Edges.MAX}) {
                Edges.refused(LATER, "order(" + home + ", 0)", 2, y -> y.order(home, 0));
                Edges.refused(LATER, "2 ahead of 5", 2, y -> y.order(home, 9));
            }
            for (int k : new int[] {1, 8, Edges.MAX}) {
                Edges.refused(LATER, "order(1, " + k + ")", 5, y -> y.order(1, k));
                Edges.refused(LATER, "nobody BIDS", 5, y -> y.order(0, k - 1));
            }
        });
        Edges.edge(13, "(2; 5: it is OUT, BARRED, or does not FIT)", () -> {
            noSuch("ahead()", (x, house, home) -> x.ahead(house, home));
            Edges.refused(LATER, "p is OUT", 5, x -> x.ahead(0, 1));
            Edges.refused(() -> {
                HomesQueue x = LATER.make();
                x.leave(1);
                return x;
            }, "q left", 5, x -> x.ahead(1, 1));
            Edges.Making barred = () -> {
                HomesQueue x = Edges.told("rule refuse 1;rule bar 1;home a 1 0;home b 2 0;home c 3 0;house p 4 1 0 500 b;"
                        + "house q 1 1 0 500 b;");
                Edges.bid(x, 1, 0);
                x.week();
                return x;
            };
            Edges.refused(barred, "q is BARRED", 5, x -> x.ahead(1, 0));
            Edges.refused(barred, "two ROOMS more", 5, x -> x.ahead(0, 2));
            HomesQueue x = barred.make();
            is(x, "nobody is ahead of p", x.ahead(0, 0), 0);
            x.week();
            is(x, "q is BARRED no more", x.ahead(1, 0), 0);
            is(x, "q goes ahead of p", x.ahead(0, 0), 1);
            x.need(1, 2);
            is(x, "a does not FIT q", x.ahead(0, 0), 0);
            is(x, "b does", x.ahead(0, 1), 1);
            not(x, "a ROOM less", x.ahead(1, 0), 5);
            HomesQueue y = Edges.told("home a 1 0;house n 1 1 0 500 in a;" + Edges.lines("house p", 7, " 2 1 0 500;"));
            for (int i = 0; i < 8; i++) {
                is(y, "all the others, though it is not FREE", y.ahead(i, 0), i);
            }
            y.leave(0);
            is(y, "n is OUT", y.ahead(7, 0), 6);
            y.need(1, 2);
            is(y, "it does not FIT the next", y.ahead(7, 0), 5);
        });
        Edges.edge(14, "1: at a QUOTA TURN (1; 2).", () -> {
            for (int what : new int[] {-1, 2, Edges.MIN, Edges.MAX}) {
                Edges.refused(LATER, "turn(0, " + what + ")", 1, x -> x.turn(0, what));
                Edges.refused(LATER, "1 ahead of 2", 1, x -> x.turn(3, what));
            }
            for (int home : new int[] {-1, 3, 10, Edges.MIN, Edges.MAX}) {
                Edges.refused(LATER, "turn(" + home + ", 0)", 2, x -> x.turn(home, 0));
                Edges.refused(LATER, "turn(" + home + ", 1)", 2, x -> x.turn(home, 1));
            }
            HomesQueue x = LATER.make();
            is(x, "LOCAL 1: always", x.turn(2, 0), 1);
            is(x, "QUOTA 0: never", x.turn(2, 1), 0);
        });
    }

    private static void letsAndOffers() {
        Edges.edge(15, "(1; 2: there are not so many, k below 0)", () -> {
            HomesQueue x = LATER.make();
            int[] let = {0, 0, 0, 1, 1, 0, 1, 2};
            for (int what = 0; what < 8; what++) {
                is(x, "let(0, " + what + ")", x.let(0, what), let[what]);
            }
            for (int what : new int[] {-1, 8, 9, 10, 11, Edges.MIN, Edges.MAX}) {
                Edges.refused(LATER, "let(0, " + what + ")", 1, y -> y.let(0, what));
                Edges.refused(LATER, "1 ahead of 2", 1, y -> y.let(1, what));
                Edges.refused(LATER, "1 ahead of 2", 1, y -> y.let(-1, what));
            }
            for (int k : new int[] {-1, 1, 8, Edges.MIN, Edges.MAX}) {
                Edges.refused(LATER, "let(" + k + ", 0)", 2, y -> y.let(k, 0));
                Edges.refused(LATER, "let(" + k + ", 7)", 2, y -> y.let(k, 7));
            }
            Edges.refused(THREE, "no LETS", 2, y -> y.let(0, 0));
            HomesQueue y = Edges.told(Edges.lines("home ", 8, " 1 0;") + Edges.lines("house p", 8, " 1 1 0 500;"));
            for (int i = 0; i < 8; i++) {
                Edges.bid(y, i, i);
            }
            is(y, "eight LETS", y.week(), 8);
            is(y, "the last", y.let(7, 0) * 10 + y.let(7, 1), 77);
            not(y, "one more", y.let(8, 0), 2);
        });
        Edges.edge(15, "4: 1 by a LOCAL TURN, else 0, 5: 1 by a QUOTA TURN", () -> {
            HomesQueue x = Edges.told("rule local 2;rule quota 60;home a 1 1;home b 1 1;home c 1 1;home d 1 2;home e 1 2;"
                    + "house p 1 1 1 500;house q 1 1 1 500 in e;house r 1 1 0 500;house s 1 1 2 500;");
            for (int i = 0; i < 4; i++) {
                Edges.bid(x, i, i);
            }
            is(x, "four LETS", x.week(), 4);
            // Of WARD 1 the second one is at a LOCAL TURN; behind 0 of 1, 1 of 2, 1 of 3 it is a QUOTA TURN.
            int[] local = {0, 1, 0, 0};
            int[] quota = {0, 1, 1, 1};
            for (int k = 0; k < 4; k++) {
                is(x, "let(" + k + ", 4)", x.let(k, 4), local[k]);
                is(x, "let(" + k + ", 5)", x.let(k, 5), quota[k]);
            }
        });
        Edges.edge(15, "6: the OFFER (1 to 3) by which, 7: BAND NOW of the HOUSE then", () -> {
            for (int refusing = 0; refusing < 3; refusing++) {
                HomesQueue x = Edges.told("home a 1 0;home b 1 0;" + Edges.lines("house p", 3, " 1 1 0 500 b;")
                        + "house q 4 1 0 2;");
                for (int i = 0; i < refusing; i++) {
                    Edges.bid(x, i, 0);
                }
                Edges.bid(x, 3, 0);
                x.week();
                is(x, "the OFFER", x.let(0, 6), refusing + 1);
                is(x, "BAND NOW then: 998 days", x.let(0, 7), 4);
                is(x, "BAND NOW now: 1005 days", x.house(3, 1), 3);
                is(x, "by no LOCAL TURN, no QUOTA TURN", x.let(0, 4) + x.let(0, 5), 0);
            }
        });
        Edges.edge(16, "(1; 2: there are not so many, k below 0)", () -> {
            HomesQueue x = LATER.make();
            is(x, "the one OFFER", x.offer(0, 0) * 100 + x.offer(0, 1) * 10 + x.offer(0, 2), 1);
            for (int what : new int[] {-1, 3, Edges.MIN, Edges.MAX}) {
                Edges.refused(LATER, "offer(0, " + what + ")", 1, y -> y.offer(0, what));
                Edges.refused(LATER, "1 ahead of 2", 1, y -> y.offer(1, what));
                Edges.refused(LATER, "1 ahead of 2", 1, y -> y.offer(-1, what));
            }
            for (int k : new int[] {-1, 1, 30, Edges.MIN, Edges.MAX}) {
                Edges.refused(LATER, "offer(" + k + ", 0)", 2, y -> y.offer(k, 0));
                Edges.refused(LATER, "offer(" + k + ", 2)", 2, y -> y.offer(k, 2));
            }
            Edges.refused(THREE, "no WEEK ended", 2, y -> y.offer(0, 0));
            x.week();
            not(x, "of the latest WEEK: one OFFER", x.offer(1, 0), 2);
            is(x, "to q", x.offer(0, 0), 1);
            x.week();
            not(x, "of the latest WEEK: none", x.offer(0, 0), 2);
        });
    }

    private static void tallies() {
        Edges.edge(17, "0: the greatest CHAIN of a LET (0 without LETS)", () -> {
            HomesQueue x = THREE.make();
            for (int what = 0; what < 5; what++) {
                is(x, "tally(" + what + ") without LETS", x.tally(what), 0);
            }
            x.auto();
            x.week();
            is(x, "with LETS", x.tally(0), 1);
        });
        Edges.edge(17, "4: PASSED OVER in all (1).", () -> {
            for (int what : new int[] {-1, 5, Edges.MIN, Edges.MAX}) {
                Edges.refused(LATER, "tally(" + what + ")", 1, x -> x.tally(what));
            }
        });
        Edges.edge(17, "2: LETS to those who lived in a HOME, 3: LETS to HOUSES with a TIE to the HOME's WARD", () -> {
            HomesQueue x = Edges.told("home a 1 1;home b 1 2;home c 1 3;house p 1 1 1 500 in c;house q 1 1 1 500;house r 1 1 3 500;");
            Edges.bid(x, 0, 0);
            Edges.bid(x, 1, 1);
            x.week();
            is(x, "p lived in c, q in none", x.tally(2), 1);
            is(x, "p has a TIE, q none to b's WARD", x.tally(3), 1);
            is(x, "both with CHAIN 1", x.tally(1), 2);
            Edges.bid(x, 2, 2);
            x.week();
            is(x, "r lived in none", x.tally(2), 1);
            is(x, "r has a TIE to c's WARD", x.tally(3), 2);
            is(x, "r has CHAIN 2", x.tally(1), 2);
        });
        Edges.edge(18, "LACK by rooms (may be below 0: STATUS tells) (1).", () -> {
            HomesQueue x = Edges.told("home a 4 0;home b 4 0;home c 1 0;house p 1 1 0 0;house q 1 1 0 0;house r 1 2 0 0;");
            int[] lack = {1, 1, 0, -2};
            for (int rooms = 1; rooms <= 4; rooms++) {
                is(x, "lack(" + rooms + ")", x.lack(rooms), lack[rooms - 1]);
            }
            x.shut(1, true);
            is(x, "-1, with STATUS 0", x.lack(4), NONE);
            for (int rooms : new int[] {0, 5, -1, Edges.MIN, Edges.MAX}) {
                Edges.refused(LATER, "lack(" + rooms + ")", 1, y -> y.lack(rooms));
            }
        });
        Edges.edge(0, "LACK by rooms r (1 to 4): HOUSES not OUT with NEED r, less FREE HOMES with ROOMS r.", () -> {
            HomesQueue x = Edges.told("home a 2 0;home b 2 0;home c 2 0;house p 1 2 0 500 in c;house q 1 2 0 500;"
                    + "house r 1 1 0 500;");
            is(x, "two, less two: c is lived in", x.lack(2), 0);
            x.leave(1);
            is(x, "q is OUT", x.lack(2), -1);
            x.leave(0);
            is(x, "p is OUT, c left in this WEEK", x.lack(2), -2);
            x.week();
            is(x, "c is FREE", x.lack(2), -3);
            x.shut(0, true);
            is(x, "a is SHUT", x.lack(2), -2);
            is(x, "r has need of one ROOM, though two FIT", x.lack(1), 1);
        });
    }
}
