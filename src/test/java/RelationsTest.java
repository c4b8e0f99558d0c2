import java.util.ArrayList;
import java.util.HashSet;
import java.util.List;
import java.util.Random;
import java.util.Set;

/**
 * What the document says of one call by means of others, on random runs: what AHEAD, would() and LEVER tell is done by
 * hand and undone, counts are summed up, OUT is loaded again. No second reading of the document is needed for it.
 */
public final class RelationsTest {
    private static final int NONE = HomesQueue.NONE;
    private static final int RUNS = 300;
    private static final int STEPS = 40;
    private static final int MOST_KEPT = 12;

    private static int wrong;
    private static int checks;

    private final Random random;
    private final HomesQueue x;
    private final String text;

    private RelationsTest(long seed) {
        random = new Random(seed);
        text = text();
        x = Edges.told(text);
    }

    public static void main(String[] args) {
        for (int seed = 0; seed < RUNS && wrong == 0; seed++) {
            new RelationsTest(seed).run();
        }
        System.out.println("RelationsTest: " + RUNS + " runs, " + checks + " checks, " + wrong + " wrong");
        if (wrong != 0) {
            System.exit(1);
        }
    }

    private void due(String what, int got, int want) {
        due(what, Integer.toString(got), Integer.toString(want));
    }

    private void due(String what, String got, String want) {
        checks++;
        if (!got.equals(want)) {
            wrong++;
            System.out.println(what + " is\n  " + got + "\ndue is\n  " + want + "\nof " + text);
        }
    }

    private void check(String what, boolean right) {
        due(what, right ? 1 : 0, 1);
    }

    // ---- runs

    private String text() {
        int homes = 2 + random.nextInt(9);
        int houses = 1 + random.nextInt(8);
        int rooms = 1 + random.nextInt(3);
        int lived = random.nextInt(4);
        StringBuilder b = new StringBuilder();
        b.append("rule local ").append(random.nextInt(4)).append(";rule quota ").append(random.nextInt(101));
        b.append(";rule age ").append(100 + random.nextInt(900)).append(";rule refuse ").append(1 + random.nextInt(3));
        b.append(";rule bids ").append(1 + random.nextInt(3)).append(";rule bar ").append(1 + random.nextInt(3)).append(';');
        for (int i = 0; i < homes; i++) {
            b.append("home ").append(name('a', i)).append(' ').append(1 + random.nextInt(rooms)).append(' ');
            b.append(random.nextInt(3)).append(';');
        }
        for (int i = 0; i < houses; i++) {
            b.append("house ").append(name('p', i)).append(' ').append(1 + random.nextInt(4)).append(' ');
            b.append(1 + random.nextInt(rooms)).append(' ').append(random.nextInt(3)).append(' ').append(random.nextInt(1000));
            if (i < homes && random.nextInt(4) < lived) {
                b.append(" in ").append(name('a', i));
            }
            int first = random.nextInt(homes);
            int wishes = random.nextInt(3) == 0 ? 0 : random.nextInt(Math.min(homes, 6) + 1);
            for (int k = 0; k < wishes; k++) {
                b.append(' ').append(name('a', (first + k) % homes));
            }
            b.append(';');
        }
        return b.toString();
    }

    private static String name(char kind, int i) {
        return "" + kind + (char) ('a' + i);
    }

    private void run() {
        for (int step = 0; step < STEPS && wrong == 0; step++) {
            actAndUndo();
            act();
            askNothingChanges();
            sums();
            orders();
            gifts();
            trades();
            longest();
            if (step % 4 == 0) {
                aheadByHand();
                wouldByHand();
                leverByHand();
                printedAgain();
            }
        }
    }

    private int someHouse() {
        return random.nextInt(x.many(1));
    }

    private int someHome() {
        return random.nextInt(x.many(0));
    }

    private int act() {
        int house = someHouse();
        int home = someHome();
        return switch (random.nextInt(24)) {
            case 0 -> x.unbid(house, home);
            case 1 -> x.auto();
            case 2, 3, 4 -> x.week();
            case 5 -> x.wish(house, home);
            case 6 -> x.unwish(house, home);
            case 7 -> random.nextInt(3) == 0 ? x.leave(house) : NONE;
            case 8 -> x.shut(home, random.nextBoolean());
            case 9 -> x.need(house, 1 + random.nextInt(4));
            case 10 -> x.rules(random.nextInt(6), random.nextInt(12));
            default -> x.bid(house, home);
        };
    }

    private String all() {
        return Edges.state(x) + " could " + Edges.could(x);
    }

    private void undo(int acts) {
        for (int i = 0; i < acts; i++) {
            x.undo();
        }
    }

    // ---- relations

    private void actAndUndo() {
        String before = all();
        int kept = x.many(7);
        int answer = act();
        boolean acted = answer != NONE;
        if (!acted) {
            due("refused: all", all(), before);
            due("refused: ACTS", x.many(7), kept);
            return;
        }
        due("ACTS", x.many(7), Math.min(kept + 1, MOST_KEPT));
        due("undo()", x.undo(), Math.min(kept, MOST_KEPT - 1));
        due("undone: all", all(), before);
    }

    private void askNothingChanges() {
        String before = Edges.state(x);
        int kept = x.many(7);
        String could = Edges.could(x);
        due("could be, asked again", Edges.could(x), could);
        due("asked: all", Edges.state(x), before);
        due("asked: ACTS", x.many(7), kept);
    }

    private void sums() {
        int bids = 0;
        int passed = 0;
        int waiting = 0;
        for (int h = 0; h < x.many(1); h++) {
            bids += x.house(h, 9);
            passed += x.house(h, 11);
            waiting += 1 - x.house(h, 8);
            int home = x.house(h, 5);
            check("who lives there", home == NONE || x.home(home, 2) == h);
            check("who BIDS is not OUT, not BARRED", x.house(h, 9) == 0 || x.house(h, 8) + x.house(h, 7) == 0);
        }
        int bidders = 0;
        int lets = 0;
        int free = 0;
        for (int m = 0; m < x.many(0); m++) {
            bidders += x.home(m, 4);
            lets += x.home(m, 5);
            free += x.home(m, 3);
            check("FREE", x.home(m, 3) == 0 || (x.home(m, 2) == NONE && x.home(m, 6) == 0));
            check("BIDS are for FREE HOMES", x.home(m, 4) == 0 || x.home(m, 3) == 1);
        }
        due("BIDS", bids, x.many(4));
        due("BIDS of HOMES", bidders, x.many(4));
        due("PASSED OVER", passed, x.tally(4));
        due("not OUT", waiting, x.many(6));
        due("LETS of HOMES", lets, x.many(3));
        due("FREE HOMES", free, x.many(5));
        int lack = 0;
        for (int rooms = 1; rooms <= 4; rooms++) {
            lack += x.lack(rooms);
        }
        due("LACK in all", lack, waiting - free);
    }

    private void orders() {
        for (int m = 0; m < x.many(0); m++) {
            int least = 0;
            Set<Integer> seen = new HashSet<>();
            for (int k = 0; k < x.home(m, 4); k++) {
                int h = x.order(m, k);
                check("one who BIDS, once", x.bids(h, m) == 1 && seen.add(h));
                check("ahead() along ORDER", x.ahead(h, m) >= least);
                due("gap() 0 of the first alone", x.gap(h, m) == 0 ? 1 : 0, k == 0 ? 1 : 0);
                least = x.ahead(h, m) + 1;
            }
            due("no more", x.order(m, x.home(m, 4)), NONE);
            for (int h = 0; h < x.many(1); h++) {
                boolean may = x.why(h, m) == 0 || x.bids(h, m) == 1;
                check("would() answers who may BID", !may || x.would(h, m) != NONE);
            }
        }
    }

    private boolean hasBit(int bits, int home) {
        return home >= 0 && (bits >> home & 1) == 1;
    }

    private void gifts() {
        int given = 0;
        int homes = 0;
        for (int h = 0; h < x.many(1); h++) {
            int home = x.gift(h);
            if (home != NONE) {
                check("one that FITS, FREE, and it would TAKE", hasBit(x.fits(h, 1) & x.fits(h, 2), home));
                check("each another one", !hasBit(homes, home));
                homes |= 1 << home;
                given++;
            }
        }
        due("THE GIFT for MOST", given, x.most());
    }

    private void trades() {
        int before = 0;
        int after = 0;
        int moved = 0;
        for (int h = 0; h < x.many(1); h++) {
            int own = x.house(h, 5);
            int got = x.trade(h);
            due("who lives in one trades", got == NONE ? 1 : 0, own == NONE ? 1 : 0);
            if (own != NONE && got != NONE) {
                before |= 1 << own;
                after |= 1 << got;
                moved += own != got ? 1 : 0;
                check("another one only if it FITS", own == got || hasBit(x.fits(h, 0) & x.fits(h, 2), got));
            }
        }
        due("HOMES traded", after, before);
        due("HOUSES that get another one", moved, x.trades(0));
        check("circles", x.trades(1) * 2 <= moved && x.trades(2) <= Math.max(moved, 1));
        check("who ENVY one another need not stay", x.envy(0) == 0 || moved > 0);
    }

    private void longest() {
        int moves = x.longest(NONE, false);
        Set<Integer> seen = new HashSet<>();
        int home = x.longest(0, true);
        for (int k = 0; k < moves; k++) {
            int h = x.longest(k, false);
            due("the HOME of a move", x.longest(k, true), home);
            check("it FITS, and it would TAKE it", hasBit(x.fits(h, 2), home) && seen.add(h));
            check("not OUT, not BARRED", x.house(h, 8) == 0 && x.house(h, 7) == 0);
            check("the first is FREE", k > 0 || x.home(home, 3) == 1);
            home = x.house(h, 5);
        }
        due("no more", x.longest(moves, true), NONE);
        due("a row if any could be given one", moves > 0 ? 1 : 0, x.most() > 0 ? 1 : 0);
    }

    // ---- by hand

    private void aheadByHand() {
        String before = all();
        int n = 1 + random.nextInt(5);
        List<Integer> want = new ArrayList<>();
        List<Integer> when = new ArrayList<>();
        for (int what = 0; what < 6; what++) {
            want.add(x.weeks(n, what));
        }
        for (int h = 0; h < x.many(1); h++) {
            when.add(x.house(h, 8) == 1 ? NONE : x.when(h, n, false));
            when.add(x.house(h, 8) == 1 ? NONE : x.when(h, n, true));
        }
        int lets = x.many(3);
        int refusals = x.many(8);
        int passed = x.tally(4);
        int acts = 0;
        for (int i = 0; i < n; i++) {
            acts += x.auto() == NONE ? 0 : 1;
            acts += x.week() == NONE ? 0 : 1;
        }
        List<Integer> got = List.of(x.many(3) - lets, x.many(8) - refusals, x.many(5), x.many(6), x.tally(0),
                x.tally(4) - passed);
        due("AHEAD for " + n + ", by hand", got.toString(), want.toString());
        List<Integer> came = new ArrayList<>();
        for (int h = 0; h < x.many(1); h++) {
            came.add(NONE);
            came.add(NONE);
        }
        for (int k = lets; k < x.many(3); k++) {
            came.set(2 * x.let(k, 0), x.let(k, 2));
            came.set(2 * x.let(k, 0) + 1, x.let(k, 1));
        }
        due("when() for " + n + ", by hand", came.toString(), when.toString());
        undo(acts);
        due("AHEAD undone", all(), before);
    }

    private void wouldByHand() {
        int h = someHouse();
        int m = someHome();
        int told = x.would(h, m);
        if (told == NONE) {
            return;
        }
        String before = Edges.state(x);
        int acts = 2;
        for (int home = 0; home < x.many(0); home++) {
            acts += x.unbid(h, home) == NONE ? 0 : 1;
        }
        check("it may BID", x.bid(h, m) == 1);
        x.week();
        int came = 0;
        for (int k = 0; k < x.many(9); k++) {
            if (x.offer(k, 0) == h) {
                came = x.offer(k, 2) == 1 ? 1 : 2;
            }
        }
        due("would(), by hand", came, told);
        undo(acts);
        due("would() undone", Edges.state(x), before);
    }

    private void leverByHand() {
        int n = 1 + random.nextInt(6);
        int most = NONE;
        int rule = NONE;
        int number = NONE;
        for (int what = 0; what < 6; what++) {
            int now = x.rule(what);
            for (int to = now - 1; to <= now + 1; to += 2) {
                if (x.rules(what, to) != NONE) {
                    int lets = x.weeks(n, 0);
                    x.undo();
                    rule = lets > most ? what : rule;
                    number = lets > most ? to : number;
                    most = Math.max(most, lets);
                }
            }
        }
        due("LEVER, LETS", x.lever(n, 0), most);
        due("LEVER, the rule", x.lever(n, 1), rule);
        due("LEVER, its number", x.lever(n, 2), number);
    }

    private void printedAgain() {
        String out = Edges.printed(x);
        if (out.length() > 900) {
            return;
        }
        HomesQueue y = new HomesQueue();
        Edges.feed(y, out);
        due("OUT loaded", y.load(out.length()), x.many(6));
        due("OUT of OUT", Edges.printed(y), out);
        due("LETS have no part in a TEXT", y.many(3), 0);
        for (int what = 0; what < 6; what++) {
            due("rule " + what, y.rule(what), x.rule(what));
        }
    }
}
