import java.io.IOException;
import java.nio.file.Files;
import java.nio.file.Path;
import java.util.HashSet;
import java.util.NoSuchElementException;
import java.util.Set;

/**
 * What the tests of edges share. An edge is a sentence of the document that names a boundary case, with a test of its
 * own: edge() looks that the sentence stands in the document, under that promise (0: ahead of the promises).
 */
final class Edges {
    static final int NONE = HomesQueue.NONE;
    static final int MIN = Integer.MIN_VALUE;
    static final int MAX = Integer.MAX_VALUE;
    static final int THROWN = -2;
    static final int PROMISES = 48;

    interface Body {
        void run();
    }

    interface Call {
        int on(HomesQueue x);
    }

    interface Making {
        HomesQueue make();
    }

    private static final String[] sections = new String[PROMISES + 1];
    private static final int[] edgesOf = new int[PROMISES + 1];
    private static final Set<String> seen = new HashSet<>();
    private static String open = "";
    private static int edges;
    private static int checks;
    private static int wrong;

    private Edges() {
    }

    static void begin() throws IOException {
        String rest = Files.readString(Path.of("../shared/DOC.md"));
        for (int i = 0; i <= PROMISES; i++) {
            String head = i < PROMISES ? "## Promise " + (i + 1) + ":" : "## Not promised";
            int end = rest.indexOf(head);
            if (end < 0) {
                blame("the document has no " + head);
                end = 0;
            }
            sections[i] = rest.substring(0, end).replaceAll("\\s+", " ");
            rest = rest.substring(end);
        }
    }

    static void edge(int promise, String sentence, Body body) {
        open = (promise == 0 ? "terms" : "promise " + promise) + " '" + sentence + "'";
        edges++;
        edgesOf[promise]++;
        if (!sections[promise].contains(sentence)) {
            blame("no such sentence in the document");
        }
        if (!seen.add(promise + sentence)) {
            blame("has a test already");
        }
        int before = checks;
        body.run();
        if (checks == before) {
            blame("nothing was checked");
        }
    }

    /** Fails unless each promise of these has an edge. */
    static void end(String test, int first, int last) {
        open = test;
        for (int i = first; i <= last; i++) {
            if (edgesOf[i] == 0) {
                blame("promise " + i + " has no edge");
            }
        }
        System.out.println(test + ": " + edges + " edges, " + checks + " checks, " + wrong + " wrong");
        if (wrong != 0) {
            System.exit(1);
        }
    }

    static void blame(String what) {
        wrong++;
        System.out.println(open + ": " + what);
    }

    // ---- checks

    static void due(String call, int got, int want) {
        checks++;
        if (got != want) {
            blame(call + " answered " + got + ", due is " + want);
        }
    }

    static void due(String call, String got, String want) {
        checks++;
        if (!got.equals(want)) {
            blame(call + " answered\n  " + got + "\ndue is\n  " + want);
        }
    }

    /** An answer of STATUS 0. */
    static void is(HomesQueue x, String call, int got, int want) {
        due(call, got, want);
        due(call + ", STATUS", x.status(), 0);
    }

    /** NONE, with a STATUS. */
    static void not(HomesQueue x, String call, int got, int status) {
        due(call, got, NONE);
        due(call + ", STATUS", x.status(), status);
    }

    /** A call that gives NONE with a STATUS and leaves all else as it is without the call. */
    static void refused(Making making, String name, int status, Call call) {
        HomesQueue x = making.make();
        not(x, name, call.on(x), status);
        due(name + ": all else", picture(x), picture(making.make()));
    }

    static void right(String text, int houses) {
        HomesQueue x = new HomesQueue();
        feed(x, text);
        is(x, "load of " + text, x.load(text.length()), houses);
        due(text + ": fault(0)", x.fault(0), 0);
        due(text + ": fault(1)", x.fault(1), NONE);
    }

    static void fault(String text, int kind, int place) {
        HomesQueue x = new HomesQueue();
        feed(x, text);
        not(x, "load of " + text, x.load(text.length()), 9);
        due(text + ": fault(0)", x.fault(0), kind);
        due(text + ": fault(1)", x.fault(1), place);
    }

    // ---- makings

    static int feed(HomesQueue x, String text) {
        String padded = text + " ".repeat((20 - text.length() % 20) % 20);
        int length = 0;
        for (int i = 0; i < padded.length(); i += 20) {
            int[] n = new int[5];
            for (int k = 0; k < 20; k++) {
                n[k / 4] = n[k / 4] << 8 | padded.charAt(i + k);
            }
            length = x.feed(n[0], n[1], n[2], n[3], n[4]);
        }
        return length;
    }

    static HomesQueue told(String text) {
        HomesQueue x = new HomesQueue();
        feed(x, text);
        if (x.load(text.length()) == NONE) {
            blame("FAULT " + x.fault(0) + " at " + x.fault(1) + " of " + text);
        }
        return x;
    }

    /** n LINES, each with another letter in it. */
    static String lines(String before, int n, String after) {
        StringBuilder b = new StringBuilder();
        for (int i = 0; i < n; i++) {
            b.append(before).append((char) ('a' + i)).append(after);
        }
        return b.toString();
    }

    /** A HOUSE BIDS for some HOMES. */
    static void bid(HomesQueue x, int house, int... homes) {
        for (int home : homes) {
            if (x.bid(house, home) == NONE) {
                blame("HOUSE " + house + " may not BID for HOME " + home + ": " + x.why(house, home));
            }
        }
    }

    static void weeks(HomesQueue x, int n) {
        for (int i = 0; i < n; i++) {
            x.week();
        }
    }

    static void undo(HomesQueue x, int n) {
        for (int i = 0; i < n; i++) {
            x.undo();
        }
    }

    static int out(HomesQueue x, int i) {
        try {
            return x.out(i);
        } catch (NoSuchElementException e) {
            return THROWN;
        }
    }

    static String printed(HomesQueue x) {
        int n = x.print();
        StringBuilder b = new StringBuilder();
        for (int i = 0; i < n; i++) {
            b.append((char) out(x, i));
        }
        return b.toString();
    }

    /** Which HOMES a HOUSE BIDS for, as bits. */
    static int bidBits(HomesQueue x, int house) {
        int bits = 0;
        for (int home = 0; home < x.many(0); home++) {
            bits |= x.bids(house, home) << home;
        }
        return bits;
    }

    /** The WISHES of a HOUSE, by numbers of HOMES. */
    static String wishes(HomesQueue x, int house) {
        StringBuilder b = new StringBuilder();
        for (int k = 0; k < x.house(house, 10); k++) {
            b.append(x.house(house, 20 + k)).append(' ');
        }
        return b.toString().trim();
    }

    /** What an object answers on all that is told and that came; the tape is longer for it, and OUT is another one. */
    static String picture(HomesQueue x) {
        StringBuilder b = new StringBuilder(state(x));
        b.append(" ACTS ").append(x.many(7));
        b.append(" FAULT ").append(x.fault(0)).append(' ').append(x.fault(1));
        b.append(" tape ").append(x.feed(0, 0, 0, 0, 0));
        return b.toString();
    }

    /** What an ACT could change: all but how many ACTS there are, the FAULT, the tape. */
    static String state(HomesQueue x) {
        StringBuilder b = new StringBuilder();
        for (int i = 0; i < 10; i++) {
            b.append(i == 7 ? "" : x.many(i) + " ");
        }
        for (int i = 0; i < 6; i++) {
            b.append(x.rule(i)).append(i < 5 ? "," : " ");
        }
        for (int h = 0; h < x.many(0); h++) {
            b.append("| ");
            for (int i = 2; i < 8; i++) {
                b.append(x.home(h, i)).append(' ');
            }
        }
        for (int h = 0; h < x.many(1); h++) {
            b.append("| ");
            for (int i = 0; i < 12; i++) {
                b.append(x.house(h, i)).append(' ');
            }
            b.append("bits ").append(bidBits(x, h)).append(" wishes ").append(wishes(x, h)).append(' ');
        }
        for (int k = 0; k < x.many(3); k++) {
            b.append("| LET ");
            for (int i = 0; i < 8; i++) {
                b.append(x.let(k, i)).append(' ');
            }
        }
        for (int k = 0; k < x.many(9); k++) {
            b.append("| OFFER ").append(x.offer(k, 0)).append(x.offer(k, 1)).append(x.offer(k, 2)).append(' ');
        }
        for (int i = 0; i < 5; i++) {
            b.append(x.tally(i)).append(' ');
        }
        return b.append(printed(x)).toString();
    }

    /** What an object answers on what could be. */
    static String could(HomesQueue x) {
        StringBuilder b = new StringBuilder();
        int homes = x.many(0);
        int houses = x.many(1);
        for (int h = 0; h < houses; h++) {
            b.append("| ").append(x.when(h, 30, true)).append(' ').append(x.tip(h)).append(' ').append(x.fits(h, 1));
            b.append(' ').append(x.queue(h)).append(' ').append(x.gift(h)).append(' ').append(x.trade(h)).append(' ');
            b.append(x.longest(h, false)).append(' ').append(x.longest(h, true)).append(' ');
            for (int m = 0; m < homes; m++) {
                b.append(x.why(h, m)).append(x.ahead(h, m)).append(x.would(h, m)).append(x.gap(h, m)).append(' ');
            }
        }
        for (int m = 0; m < homes; m++) {
            b.append("| ").append(x.order(m, 0)).append(x.turn(m, 0)).append(x.turn(m, 1)).append(x.top(m));
            b.append(x.lot(m, 5)).append(' ');
        }
        b.append("| ");
        for (int i = 0; i < 6; i++) {
            b.append(x.weeks(9, i)).append(' ').append(x.lack(i)).append(' ').append(x.envy(i)).append(' ');
            b.append(x.trades(i)).append(' ').append(x.lever(9, i)).append(' ');
        }
        b.append(x.ward(false)).append(' ').append(x.ward(true)).append(' ').append(x.most()).append(' ');
        return b.append(x.longest(NONE, false)).toString();
    }
}
