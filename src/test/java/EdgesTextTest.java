/** The edges of a TEXT, and of the promises 1 to 5. */
public final class EdgesTextTest {
    private static final int NONE = Edges.NONE;
    private static final String HOME = "home a 1 0;";
    private static final String TEN = Edges.lines("home ", 10, " 1 0;");
    private static final String EIGHT = Edges.lines("house p", 8, " 1 1 0 0;");
    private static final String[] NO_NAMES = {"home", "house", "rule", "in", "refuse", "bar", "local", "quota", "age",
        "bids"};

    public static void main(String[] args) throws Exception {
        Edges.begin();
        tokens();
        grammar();
        names();
        homesAndHouses();
        ruleLines();
        faultsInOrder();
        kindsOfFaults();
        aNewObject();
        statusOfCalls();
        feeding();
        loading();
        theFault();
        Edges.end("EdgesTextTest", 1, 5);
    }

    private static void fault(String text, int kind, int place) {
        Edges.fault(text, kind, place);
    }

    private static void right(String text, int houses) {
        Edges.right(text, houses);
    }

    /** A text of 900 bytes with blanks between its beginning and its end. */
    private static String wide(String first, String last) {
        return first + " ".repeat(900 - first.length() - last.length()) + last;
    }

    private static void tokens() {
        Edges.edge(0, "A TEXT of at most 900 bytes.", () -> {
            HomesQueue x = Edges.told(wide(HOME, "home b 4 7;"));
            Edges.is(x, "HOMES, the second one's SIGN is byte 899", x.many(0), 2);
            Edges.is(x, "its WARD", x.home(1, 1), 7);
            fault(wide(HOME, "home b 4 7"), 2, 900);
            fault(wide(HOME, "!"), 1, 899);
        });
        Edges.edge(0, "TOKENS, as long as they go, between them blanks (10, 32)", () -> {
            right("home a1 0;home b2\n\n0 ; \n house p1 1 0 5in b a b;", 1);
            fault("homea 1 0;", 2, 0);
            fault("home a 11 0;", 3, 7);
            for (int b = 0; b < 256; b++) {
                String text = HOME + (char) b;
                boolean blank = b == 10 || b == 32;
                boolean token = b >= 'a' && b <= 'z' || b >= '0' && b <= '9' || b == ';';
                if (blank) {
                    right(text, 0);
                } else {
                    fault(text, token ? 2 : 1, 11);
                }
            }
        });
        Edges.edge(0, "WORDS (1 to 8 small letters)", () -> {
            String text = "home a 1 0;home z 1 0;home zzzzzzzz 1 0;home aaaaaaaa 1 0;home aaaaaaa 1 0;home aaaaaaab 1 0;";
            HomesQueue x = Edges.told(text);
            Edges.due("print()", Edges.printed(x).substring(76), text);
            fault("home aaaaaaaaa 1 0;", 1, 5);
            fault("home aBc 1 0;", 1, 6);
            fault("home a`c 1 0;", 1, 6);
            fault("home a{c 1 0;", 1, 6);
        });
        Edges.edge(0, "NUMBERS (1 to 3 digits)", () -> {
            HomesQueue x = Edges.told("house p 1 1 0 5;house q 1 1 0 05;house r 1 1 0 005;house s 1 1 0 999;house t 1 1 0 000;");
            int[] days = {5, 5, 5, 999, 0};
            for (int i = 0; i < 5; i++) {
                Edges.is(x, "DAY of " + i, x.house(i, 4), days[i]);
            }
            fault("house p 1 1 0 0005;", 1, 14);
            fault("house p 1 1 0 -5;", 1, 14);
            fault("house p 1 1 0 /;", 1, 14);
            fault("house p 1 1 0 :;", 1, 14);
        });
        Edges.edge(0, "the SIGN ;", () -> {
            right("home a 1 0 ;", 0);
            fault("home a 1 0:", 1, 10);
            fault("home a 1 0<", 1, 10);
            fault("home a 1 0;;", 2, 11);
        });
        Edges.edge(0, "(A longer row of letters, of digits is no TOKEN.)", () -> {
            fault("home abcdefghi 1 0;", 1, 5);
            fault("homehomehome a 1 0;", 1, 0);
            fault("rule agehouseagehouseagehouse 1;", 1, 5);
            fault("home a 0001 0;", 1, 7);
            // As ints and longs that wrap around these are 1.
            fault("home a 4294967297 0;", 1, 7);
            fault("home a 18446744073709551617 0;", 1, 7);
            fault("house p 1 1 0 1000;", 1, 14);
            fault("home " + "a".repeat(800), 1, 5);
            fault("home a " + "0".repeat(800), 1, 7);
        });
    }

    /** Each LINE cut behind each TOKEN, and each TOKEN with another one ahead of it that can't stand there. */
    private static void torn(String ahead, String[] line, String[] others) {
        StringBuilder b = new StringBuilder(ahead);
        for (int i = 0; i < line.length; i++) {
            fault(b + others[i], 2, b.length());
            b.append(line[i]).append(' ');
            if (i + 1 < line.length) {
                fault(b.toString(), 2, b.length());
                fault(b.toString().trim(), 2, b.length() - 1);
            }
        }
        Edges.told(b.toString());
    }

    private static void grammar() {
        Edges.edge(0, "A TEXT: {LINE}.", () -> {
            right("", 0);
            right(" ", 0);
            right("\n \n", 0);
            right("rule age 1;house p 1 1 0 0;home a 1 0;rule age 2;house q 1 1 0 0 in a;", 2);
            fault("a", 2, 0);
            fault("7", 2, 0);
            fault(";", 2, 0);
            fault("in", 2, 0);
            fault("age 1;", 2, 0);
        });
        Edges.edge(0, "LINE: home NAME NUMBER NUMBER ;", () -> {
            torn("", new String[] {"home", "a", "1", "0", ";"}, new String[] {"a", "1", "b", ";", "0"});
            torn(HOME, new String[] {"home", "b", "1", "0", ";"}, new String[] {"1", ";", ";", "a", "in"});
        });
        Edges.edge(0, "house NAME NUMBER NUMBER NUMBER NUMBER [in NAME] {NAME} ;", () -> {
            String[] line = {"house", "p", "1", "1", "0", "0", "in", "a", "a", ";"};
            torn(HOME, line, new String[] {"p", ";", "a", "in", ";", "a", "0", "1", "in", "home"});
            torn(HOME, line, new String[] {";", "in", ";", ";", "in", ";", "home", ";", "bids", "5"});
        });
        Edges.edge(0, "rule KIND NUMBER ;", () -> {
            torn("", new String[] {"rule", "age", "1", ";"}, new String[] {"age", "a", "age", "1"});
            torn("", new String[] {"rule", "age", "1", ";"}, new String[] {"bids", "1", ";", "age"});
        });
        Edges.edge(0, "KIND: refuse, or bar, or local, or quota, or age, or bids.", () -> {
            String[] kinds = {"refuse", "bar", "local", "quota", "age", "bids"};
            for (int i = 0; i < 6; i++) {
                HomesQueue x = Edges.told("rule " + kinds[i] + " 1;");
                Edges.is(x, "rule(" + i + ")", x.rule(i), 1);
                fault("rule " + kinds[i] + "s 1;", 2, 5);
                fault("rule " + kinds[i].substring(1) + " 1;", 2, 5);
            }
            for (String word : new String[] {"home", "house", "rule", "in"}) {
                fault("rule " + word + " 1;", 2, 5);
            }
        });
        Edges.edge(0, "({ } any number of times, [ ] once or not.)", () -> {
            String two = "home a 1 0;home b 1 0;";
            right(two + "house p 1 1 0 0;", 1);
            right(two + "house p 1 1 0 0 b a;", 1);
            right(two + "house p 1 1 0 0 in a;", 1);
            right(two + "house p 1 1 0 0 in b a b;", 1);
            fault(two + "house p 1 1 0 0 in a in b;", 2, 43);
            fault(two + "house p 1 1 0 0 a in b;", 2, 40);
            fault(two + "house p 1 1 0 0 in ;", 2, 41);
        });
    }

    private static void names() {
        Edges.edge(0, "NAMES are WORDS but home, house, rule, in and the KINDS", () -> {
            for (String word : NO_NAMES) {
                fault("home " + word + " 1 0;", 2, 5);
                fault("house " + word + " 1 1 0 0;", 2, 6);
                fault("house p 1 1 0 0 in " + word + ";", 2, 19);
                fault("house p 1 1 0 0 " + word + ";", 2, word.equals("in") ? 18 : 16);
                right("home " + word + "x 1 0;house x" + word + " 1 1 0 0 " + word + "x;", 1);
            }
            right("home hom 1 0;home i 1 0;home n 1 0;home hous 1 0;home rul 1 0;home bid 1 0;home ag 1 0;", 0);
        });
        Edges.edge(0, "no two of all HOMES and HOUSES together have one", () -> {
            fault("home a 1 0;home a 1 0;", 4, 16);
            fault("home a 1 0;house a 1 1 0 0;", 4, 17);
            fault("house p 1 1 0 0;house p 1 1 0 0;", 4, 22);
            fault("house p 1 1 0 0;home p 1 0;", 4, 21);
            fault("home aaaaaaaa 1 0;home b 1 0;home aaaaaaaa 1 0;", 4, 34);
            right("home ab 1 0;home a 1 0;home b 1 0;home ba 1 0;home aa 1 0;house abb 1 1 0 0;", 1);
            // What an earlier TEXT told is not taken.
            HomesQueue x = Edges.told("home a 1 0;house p 1 1 0 0;house q 1 1 0 0;");
            for (String text : new String[] {"home p 1 0;home q 1 0;house a 1 1 0 0;", "home a 1 0;", "house a 1 1 0 0;"}) {
                Edges.feed(x, text);
                x.load(text.length());
                Edges.due("STATUS of " + text, x.status(), 0);
            }
            Edges.feed(x, "house p 1 1 0 0 a;");
            Edges.not(x, "a is no HOME any more", x.load(18), 9);
        });
    }

    private static void homesAndHouses() {
        Edges.edge(0, "home: ROOMS (1 to 4), WARD (0 to 7); at most 10.", () -> {
            HomesQueue x = Edges.told("home a 1 0;home b 4 7;home c 04 007;");
            Edges.is(x, "ROOMS", x.home(0, 0) * 100 + x.home(1, 0) * 10 + x.home(2, 0), 144);
            Edges.is(x, "WARD", x.home(0, 1) * 100 + x.home(1, 1) * 10 + x.home(2, 1), 77);
            fault("home a 0 0;", 3, 7);
            fault("home a 5 0;", 3, 7);
            fault("home a 999 0;", 3, 7);
            fault("home a 1 8;", 3, 9);
            fault("home a 1 999;", 3, 9);
            HomesQueue ten = Edges.told(TEN);
            Edges.is(ten, "ten HOMES", ten.many(0), 10);
            fault(TEN + "home k 1 0;", 5, 110);
        });
        Edges.edge(0, "house: BAND (1 to 4), NEED (1 to 4), TIE (a WARD), DAY (0 to 999)", () -> {
            HomesQueue x = Edges.told("house p 1 1 0 0;house q 4 4 7 999;");
            int[] least = {1, 0, 1, 0, 0};
            int[] most = {4, 0, 4, 7, 999};
            for (int what : new int[] {0, 2, 3, 4}) {
                Edges.is(x, "the least of " + what, x.house(0, what), least[what]);
                Edges.is(x, "the most of " + what, x.house(1, what), most[what]);
            }
            fault("house p 0 1 0 0;", 3, 8);
            fault("house p 5 1 0 0;", 3, 8);
            fault("house p 1 0 0 0;", 3, 10);
            fault("house p 1 5 0 0;", 3, 10);
            fault("house p 1 1 8 0;", 3, 12);
            fault("house p 1 1 0 1000;", 1, 14);
        });
        Edges.edge(0, "the HOME in which it lives, told ahead, in which nobody lives yet", () -> {
            right("home a 1 0;house p 4 4 7 9 in a;", 1);
            fault("house p 1 1 0 0 in a;home a 1 0;", 4, 19);
            fault("home a 1 0;house p 1 1 0 0 in a;house q 1 1 0 0 in a;", 4, 51);
            right("home a 1 0;home b 1 0;house p 1 1 0 0 in a;house q 1 1 0 0 in b;", 2);
        });
        Edges.edge(0, "its WISHES: HOMES told ahead, unlike, 6 at most, the dearest first; at most 8.", () -> {
            HomesQueue x = Edges.told(TEN + "house p 1 1 0 0 in c j a c i b d;house q 1 1 0 0;");
            Edges.due("WISHES, its own HOME too", Edges.wishes(x, 0), "9 0 2 8 1 3");
            Edges.due("no WISHES", Edges.wishes(x, 1), "");
            fault(TEN + "house p 1 1 0 0 a b c d e f g;", 5, 138);
            fault("home a 1 0;house p 1 1 0 0 a a;", 4, 29);
            fault("house p 1 1 0 0 a;home a 1 0;", 4, 16);
            right(EIGHT, 8);
            fault(EIGHT + "house q 1 1 0 0;", 5, 136);
            HomesQueue full = Edges.told(TEN + EIGHT);
            String before = Edges.state(full);
            Edges.could(full);
            for (int i = 0; i < 10; i++) {
                full.shut(i, true);
                full.undo();
            }
            Edges.due("full, and asked all there is", Edges.state(full), before);
        });
        Edges.edge(0, "All numbered from 0 on as they are told.", () -> {
            HomesQueue x = Edges.told("house q 2 1 0 0;home b 2 0;house p 3 1 0 0;rule age 999;home a 3 0;");
            Edges.is(x, "BAND of HOUSE 0", x.house(0, 0), 2);
            Edges.is(x, "BAND of HOUSE 1", x.house(1, 0), 3);
            Edges.is(x, "ROOMS of HOME 0", x.home(0, 0), 2);
            Edges.is(x, "ROOMS of HOME 1", x.home(1, 0), 3);
            Edges.not(x, "HOUSE 2", x.house(2, 0), 2);
            Edges.not(x, "HOME 2", x.home(2, 0), 2);
        });
    }

    /** A KIND's least and greatest NUMBER, one less and one more, and what it is without a LINE. */
    private static void kind(int what, String kind, int least, int most, int without) {
        int at = ("rule " + kind + " ").length();
        HomesQueue x = Edges.told("");
        Edges.is(x, kind + " without", x.rule(what), without);
        for (int n : new int[] {least, most}) {
            HomesQueue y = Edges.told("rule " + kind + " " + n + ";");
            Edges.is(y, kind + " " + n, y.rule(what), n);
        }
        if (least > 0) {
            fault("rule " + kind + " " + (least - 1) + ";", 3, at);
        }
        fault("rule " + kind + " " + (most + 1) + ";", most == 999 ? 1 : 3, at);
        fault("rule " + kind + ";", 2, at - 1);
    }

    private static void ruleLines() {
        Edges.edge(0, "REFUSE (1 to 9; 3 without)", () -> kind(0, "refuse", 1, 9, 3));
        Edges.edge(0, "BAR (1 to 52; 4)", () -> kind(1, "bar", 1, 52, 4));
        Edges.edge(0, "LOCAL (0 to 9; 0)", () -> kind(2, "local", 0, 9, 0));
        Edges.edge(0, "QUOTA (0 to 100; 0)", () -> kind(3, "quota", 0, 100, 0));
        Edges.edge(0, "AGE (1 to 999; 999)", () -> kind(4, "age", 1, 999, 999));
        Edges.edge(0, "BIDS (1 to 3; 2)", () -> kind(5, "bids", 1, 3, 2));
        Edges.edge(0, "the latest LINE of a KIND tells", () -> {
            HomesQueue x = Edges.told("rule bids 1;rule bar 7;home a 1 0;rule bids 3;rule bar 9;");
            Edges.is(x, "BIDS", x.rule(5), 3);
            Edges.is(x, "BAR", x.rule(1), 9);
            Edges.is(x, "REFUSE", x.rule(0), 3);
            Edges.is(x, "90 LINES of one KIND", Edges.told("rule age 1;".repeat(80) + "rule age 2;").rule(4), 2);
        });
    }

    private static void faultsInOrder() {
        Edges.edge(0, "FAULTS: the first one along the text, told at its TOKEN's first byte", () -> {
            fault("home a 9 9;?", 3, 7);
            fault("home a 1 9;home a 1 0;", 3, 9);
            fault("home a 1 0;home a 9 0;", 4, 16);
            fault("home a 1 0 house", 2, 11);
            fault("home a 100 0;", 3, 7);
            fault("  \n  home  abc  1  888 ;", 3, 19);
            fault(TEN + "home a ?", 5, 110);
            fault("house p 1 1 0 0 b ?", 4, 16);
            fault("? home a 9 0;", 1, 0);
        });
        Edges.edge(0, "of one TOKEN the kind that is least", () -> {
            // Too many letters, and a HOME too many, a WISH too many.
            fault(TEN + "homehomeh k 1 0;", 1, 110);
            fault(TEN + "house p 1 1 0 0 a b c d e f abcdefghi;", 1, 138);
            fault(TEN + "house p 1 1 0 0 a b c d e f home;", 2, 138);
            fault(TEN + "house p 1 1 0 0 a b c d e f 5;", 2, 138);
            fault(TEN + "house p 1 1 0 0 a b c d e f f;", 4, 138);
            fault(TEN + "house p 1 1 0 0 a b c d e f p;", 4, 138);
            fault("home a 9999 0;", 1, 7);
            fault("home a 1 0 99;", 2, 11);
        });
    }

    private static void kindsOfFaults() {
        Edges.edge(0, "1 no TOKEN begins there", () -> {
            fault("?", 1, 0);
            fault("home a 1 0;\t", 1, 11);
            fault("home a 1 0;\r\n", 1, 11);
            fault("Home a 1 0;", 1, 0);
            fault("home " + (char) 0 + " 1 0;", 1, 5);
            fault("home " + (char) 255 + " 1 0;", 1, 5);
        });
        Edges.edge(0, "2 a TOKEN that can't stand there (at the end: the text's length)", () -> {
            fault("home", 2, 4);
            fault("home ", 2, 5);
            fault("home a 1 0", 2, 10);
            fault("home a 1 0  \n", 2, 13);
            fault("home a 1 a;", 2, 9);
            HomesQueue x = new HomesQueue();
            Edges.feed(x, "home a 1 0;");
            Edges.not(x, "load(10): the SIGN lies behind the text", x.load(10), 9);
            Edges.due("fault(1)", x.fault(1), 10);
        });
        Edges.edge(0, "3 a NUMBER that can't be", () -> {
            fault("home a 5 0;", 3, 7);
            fault("home a 1 8;", 3, 9);
            fault("house p 5 1 0 0;", 3, 8);
            fault("house p 1 5 0 0;", 3, 10);
            fault("house p 1 1 8 0;", 3, 12);
            fault("rule bar 53;", 3, 9);
        });
        Edges.edge(0, "4 a new NAME that is taken", () -> {
            fault("home a 1 0;home a 1 0;", 4, 16);
            fault("home a 1 0;house a 1 1 0 0;", 4, 17);
            fault(TEN.substring(0, 99) + "home i 1 0;", 4, 104);
            fault(EIGHT.substring(0, 119) + "house pa 1 1 0 0;", 4, 125);
        });
        Edges.edge(0, "a NAME that is no HOME told ahead", () -> {
            fault("house p 1 1 0 0 a;", 4, 16);
            fault("house p 1 1 0 0 p;", 4, 16);
            fault("house q 1 1 0 0;house p 1 1 0 0 q;", 4, 32);
            fault("house p 1 1 0 0 in p;", 4, 19);
            fault("house q 1 1 0 0;house p 1 1 0 0 in q;", 4, 35);
            fault("home aa 1 0;house p 1 1 0 0 a;", 4, 28);
            right(TEN + "house p 1 1 0 0 in j j a;", 1);
        });
        Edges.edge(0, "a HOME in which somebody lives (behind in)", () -> {
            fault("home a 1 0;house p 1 1 0 0 in a;house q 1 1 0 0 in a;", 4, 51);
            right("home a 1 0;house p 1 1 0 0 in a;house q 1 1 0 0 a;", 2);
        });
        Edges.edge(0, "a WISH told already", () -> {
            fault("home a 1 0;house p 1 1 0 0 a a;", 4, 29);
            fault(TEN + "house p 1 1 0 0 a b c d e a;", 4, 136);
            right("home a 1 0;house p 1 1 0 0 in a a;house q 1 1 0 0 a;", 2);
        });
        Edges.edge(0, "5 one too many: a HOME, a HOUSE (at the LINE's first WORD)", () -> {
            right(TEN, 0);
            fault(TEN + "home", 5, 110);
            fault(TEN + "home a 9 9", 5, 110);
            right(TEN + EIGHT, 8);
            fault(TEN + EIGHT + "house", 5, 246);
            fault(TEN + EIGHT + " house pa 0", 5, 247);
            right(TEN + EIGHT + "rule age 5;", 8);
        });
        Edges.edge(0, "a seventh WISH (at it)", () -> {
            right(TEN + "house p 1 1 0 0 a b c d e f;house q 1 1 0 0 in a a b c d e f;", 2);
            fault(TEN + "house p 1 1 0 0 in a a b c d e f g h;", 5, 143);
            fault(TEN + "house p 1 1 0 0 a b c d e f g a;", 5, 138);
        });
    }

    private static void aNewObject() {
        Edges.edge(1, "No HOMES, no HOUSES", () -> {
            HomesQueue x = new HomesQueue();
            for (int what = 0; what < 10; what++) {
                Edges.is(x, "many(" + what + ")", x.many(what), 0);
            }
            for (int i : new int[] {0, -1, 9}) {
                Edges.not(x, "home()", x.home(i, 0), 2);
                Edges.not(x, "house()", x.house(i, 0), 2);
                Edges.not(x, "bid()", x.bid(i, i), 2);
            }
            Edges.is(x, "most()", x.most(), 0);
            Edges.is(x, "longest()", x.longest(NONE, true), 0);
            Edges.not(x, "queue(0)", x.queue(0), 5);
            Edges.is(x, "week()", x.week(), 0);
        });
        Edges.edge(1, "rules as without a LINE", () -> {
            HomesQueue x = new HomesQueue();
            int[] without = {3, 4, 0, 0, 999, 2};
            for (int what = 0; what < 6; what++) {
                Edges.is(x, "rule(" + what + ")", x.rule(what), without[what]);
            }
        });
        Edges.edge(1, "WEEK 0; STATUS 0.", () -> {
            Edges.due("status()", new HomesQueue().status(), 0);
            HomesQueue x = new HomesQueue();
            Edges.is(x, "the WEEK", x.many(2), 0);
        });
    }

    private static void statusOfCalls() {
        Edges.edge(2, "STATUS of the latest call that has one.", () -> {
            HomesQueue x = new HomesQueue();
            x.feed(0, 0, 0, 0, 0);
            x.fault(5);
            Edges.due("behind calls that have none", x.status(), 0);
            x.home(0, 0);
            Edges.due("behind home()", x.status(), 2);
            for (int i = 0; i < 50; i++) {
                x.feed(0, 0, 0, 0, 0);
            }
            x.fault(0);
            x.fault(-1);
            Edges.due("out(0)", Edges.out(x, 0), Edges.THROWN);
            Edges.due("behind a full tape, fault(), out()", x.status(), 2);
            Edges.due("behind status()", x.status(), 2);
            x.rule(6);
            Edges.due("behind rule(6)", x.status(), 1);
            x.rule(5);
            Edges.due("behind rule(5)", x.status(), 0);
            x.load(900);
            Edges.due("behind a load() of a FAULT", x.status(), 9);
            x.print();
            Edges.due("behind print()", x.status(), 0);
        });
        Edges.edge(0, "status(), feed(), fault(), out() have none.", () -> {
            for (int status : new int[] {0, 1, 2, 5}) {
                HomesQueue x = new HomesQueue();
                x.print();
                int got = status == 0 ? x.most() : status == 1 ? x.rule(-1) : status == 2 ? x.leave(0) : x.undo();
                Edges.due("the call ahead", got, status == 0 ? 0 : NONE);
                x.feed(1, 2, 3, 4, 5);
                Edges.due("behind feed()", x.status(), status);
                x.fault(0);
                x.fault(2);
                Edges.due("behind fault()", x.status(), status);
                Edges.due("out(0)", Edges.out(x, 0), 'r');
                Edges.due("out(-1)", Edges.out(x, -1), Edges.THROWN);
                Edges.due("behind out()", x.status(), status);
            }
        });
    }

    private static void feeding() {
        Edges.edge(3, "Twenty bytes come behind those on the tape, the highest of each int first", () -> {
            for (int k = 0; k < 20; k++) {
                int[] n = {0x20202020, 0x20202020, 0x20202020, 0x20202020, 0x20202020};
                // 255 in the highest byte makes an int below 0.
                n[k / 4] |= 255 << 24 - k % 4 * 8;
                HomesQueue x = new HomesQueue();
                Edges.feed(x, " ".repeat(20));
                Edges.due("feed()", x.feed(n[0], n[1], n[2], n[3], n[4]), 40);
                Edges.not(x, "load(40)", x.load(40), 9);
                Edges.due("place of byte " + k, x.fault(1), 20 + k);
            }
            HomesQueue y = new HomesQueue();
            y.feed(0x686f6d65, 0x20616263, 0x20312030, 0x3b686f6d, 0x65206465);
            y.feed(0x66203420, 0x373b2020, 0x20202020, 0x20202020, 0x20202020);
            Edges.is(y, "load(40)", y.load(40), 0);
            Edges.due("print()", Edges.printed(y).substring(76), "home abc 1 0;home def 4 7;");
        });
        Edges.edge(3, "how many it has; NONE if there would be more than 900", () -> {
            HomesQueue x = new HomesQueue();
            for (int i = 1; i <= 45; i++) {
                Edges.due("feed " + i, x.feed(0x20202020, 0x20202020, 0x20202020, 0x20202020, 0x20202020), 20 * i);
            }
            for (int i = 0; i < 3; i++) {
                Edges.due("feed of a full tape", x.feed(-1, -1, -1, -1, -1), NONE);
            }
            Edges.not(x, "load(901): the tape has 900", x.load(901), 1);
            Edges.is(x, "load(900): all blanks", x.load(900), 0);
            Edges.due("feed of an empty tape", x.feed(0, 0, 0, 0, 0), 20);
        });
    }

    private static void loading() {
        Edges.Making told = () -> {
            HomesQueue x = Edges.told("rule bids 3;home a 1 0;home b 1 0;house p 1 1 0 500 b;house q 1 1 0 500 in b;");
            Edges.bid(x, 0, 0);
            x.week();
            x.rules(0, 5);
            Edges.bid(x, 0, 0);
            Edges.feed(x, "home c 1 0;house r 1 1 0 0;");
            return x;
        };
        Edges.edge(4, "The first n bytes of the tape are a TEXT: how many HOUSES", () -> {
            for (int n : new int[] {0, 11, 27}) {
                HomesQueue x = told.make();
                Edges.is(x, "load(" + n + ")", x.load(n), n / 27);
                Edges.is(x, "HOMES", x.many(0), n / 11 > 0 ? 1 : 0);
            }
            HomesQueue y = told.make();
            Edges.not(y, "load(26): without its last SIGN", y.load(26), 9);
            HomesQueue z = new HomesQueue();
            Edges.feed(z, "home a 1 0;????");
            Edges.is(z, "load(11): what lies behind is no part", z.load(11), 0);
        });
        Edges.edge(4, "1: n below 0, above what the tape has: the tape stays", () -> {
            for (int n : new int[] {-1, 41, Edges.MIN, Edges.MAX, 900, 901}) {
                Edges.refused(told, "load(" + n + ")", 1, x -> x.load(n));
                HomesQueue y = told.make();
                y.load(n);
                Edges.is(y, "load(27) behind load(" + n + ")", y.load(27), 1);
            }
            HomesQueue z = told.make();
            Edges.is(z, "load(40), all that the tape has", z.load(40), 1);
            HomesQueue v = new HomesQueue();
            Edges.not(v, "load(1) of an empty tape", v.load(1), 1);
            Edges.is(v, "load(0) of an empty tape", v.load(0), 0);
        });
        Edges.edge(4, "else it is empty then", () -> {
            for (int n : new int[] {0, 5, 11, 40}) {
                HomesQueue x = told.make();
                x.load(n);
                Edges.due("STATUS of load(" + n + ")", x.status(), n == 5 ? 9 : 0);
                Edges.not(x, "load(1) behind it", x.load(1), 1);
                Edges.due("feed() behind it", x.feed(0, 0, 0, 0, 0), 20);
            }
        });
        Edges.edge(4, "9: all else stays", () -> {
            HomesQueue x = told.make();
            Edges.not(x, "load(26)", x.load(26), 9);
            Edges.due("all else", Edges.state(x), Edges.state(told.make()));
            Edges.is(x, "ACTS", x.many(7), 4);
            Edges.is(x, "undo()", x.undo(), 3);
        });
        Edges.edge(0, "load() forgets them", () -> {
            HomesQueue x = told.make();
            x.load(27);
            Edges.is(x, "ACTS", x.many(7), 0);
            Edges.not(x, "undo()", x.undo(), 5);
        });
        Edges.edge(4, "are a TEXT: how many HOUSES", () -> {
            String full = TEN + EIGHT;
            String[] texts = {"", "home a 1 0;", "house p 1 1 0 500;", "home x 1 0;home y 1 0;house p 2 1 0 500;house q 1 1 0 500;",
                full};
            for (Edges.Call worn : WORN) {
                for (String text : texts) {
                    HomesQueue x = Edges.told("rule refuse 2;rule bar 9;rule local 1;home a 1 1;home b 1 1;home c 1 1;"
                            + "house p 1 1 0 500 in a b;house q 2 1 0 500 c;house r 3 1 1 500;");
                    worn.on(x);
                    // The questions leave traces of their own inside the object, AHEAD for 0 WEEKS of all there is.
                    Edges.could(x);
                    x.weeks(0, 0);
                    Edges.feed(x, text);
                    x.load(text.length());
                    HomesQueue y = Edges.told(text);
                    Edges.due("nothing of before", Edges.could(x) + Edges.picture(x), Edges.could(y) + Edges.picture(y));
                }
            }
            HomesQueue z = Edges.told(full);
            z.auto();
            z.week();
            Edges.could(z);
            Edges.feed(z, texts[3]);
            z.load(texts[3].length());
            HomesQueue y = Edges.told(texts[3]);
            Edges.due("nothing of a full one", Edges.could(z) + Edges.picture(z), Edges.could(y) + Edges.picture(y));
        });
    }

    // Each makes another thing of HOME 0 and HOUSE 0 so that it is not as told.
    private static final Edges.Call[] WORN = {
        x -> x.leave(0),
        x -> x.shut(0, true),
        x -> x.bid(0, 1),
        x -> x.leave(0) + x.week() + x.bid(2, 0) + x.week(),
        x -> x.bid(0, 1) + x.week() + x.week(),
        x -> x.bid(0, 2) + x.week(),
        x -> x.bid(0, 2) + x.week() + x.bid(0, 2) + x.week(),
        x -> x.bid(0, 1) + x.bid(2, 1) + x.week(),
        x -> x.rules(4, 5) + x.need(0, 2) + x.wish(0, 2),
    };

    private static void theFault() {
        Edges.edge(5, "Of the latest load() with STATUS 0 or 9", () -> {
            HomesQueue x = new HomesQueue();
            Edges.feed(x, "home ?");
            x.load(6);
            Edges.due("fault(0)", x.fault(0), 1);
            Edges.due("fault(1)", x.fault(1), 5);
            x.load(7);
            Edges.due("STATUS", x.status(), 1);
            Edges.due("fault(0) behind a load() with STATUS 1", x.fault(0), 1);
            Edges.due("fault(1) behind a load() with STATUS 1", x.fault(1), 5);
            x.load(0);
            Edges.due("fault(0) behind one with STATUS 0", x.fault(0), 0);
            Edges.due("fault(1) behind one with STATUS 0", x.fault(1), NONE);
            Edges.feed(x, "home home");
            x.load(9);
            Edges.due("fault(0) behind one with STATUS 9", x.fault(0), 2);
            x.week();
            x.undo();
            Edges.due("fault(1) behind other calls", x.fault(1), 5);
        });
        Edges.edge(5, "the FAULT (0 without one), 1: its place (NONE without).", () -> {
            right("", 0);
            right("home a 1 0;", 0);
            fault("?", 1, 0);
            fault(";", 2, 0);
        });
        Edges.edge(5, "NONE for others, and ahead of any.", () -> {
            HomesQueue x = new HomesQueue();
            for (int what : new int[] {0, 1, 2, -1, Edges.MIN, Edges.MAX}) {
                Edges.due("fault(" + what + ") ahead of any", x.fault(what), NONE);
            }
            x.load(1);
            Edges.due("fault(0) behind STATUS 1 alone", x.fault(0), NONE);
            Edges.due("fault(1) behind STATUS 1 alone", x.fault(1), NONE);
            Edges.feed(x, "????");
            x.load(4);
            for (int what : new int[] {2, 3, -1, Edges.MIN, Edges.MAX}) {
                Edges.due("fault(" + what + ")", x.fault(what), NONE);
            }
        });
    }
}
