import java.util.NoSuchElementException;
import java.util.Random;

/** Random TEXTS and random calls, each answer and STATUS held against the Oracle's. */
public final class OracleTest {
    private static final String[] NAMES = {"a", "b", "c", "dd", "ee", "abcdefgh", "zzzzzzzz", "homes", "ins", "q",
        "r", "s", "t", "u", "v", "w", "x", "y", "z", "bar", "rul", "ab", "ba", "aa"};

    private final Random random;
    private HomesQueue real;
    private Oracle model;
    private final StringBuilder story = new StringBuilder();
    private int calls;

    private OracleTest(long seed) {
        random = new Random(seed);
    }

    public static void main(String[] args) {
        int runs = args.length > 0 ? Integer.parseInt(args[0]) : 4000;
        long all = 0;
        for (int seed = 0; seed < runs; seed++) {
            OracleTest test = new OracleTest(seed);
            if (!test.run()) {
                System.out.println("seed " + seed + ":\n" + test.story);
                System.out.println("OracleTest: an answer is not the Oracle's");
                System.exit(1);
            }
            all += test.calls;
        }
        System.out.println("OracleTest: " + runs + " runs, " + all + " calls, all as the Oracle answers");
    }

    private int pick(int bound) {
        return random.nextInt(bound);
    }

    private boolean chance(int percent) {
        return pick(100) < percent;
    }

    // ---- TEXTS

    private String number(int least, int most) {
        if (chance(1) && chance(20)) {
            return Integer.toString(pick(2000));
        }
        int n = least + pick(most - least + 1);
        return chance(3) ? String.format("%03d", n) : Integer.toString(n);
    }

    private String text() {
        int homes = chance(60) ? 3 + pick(8) : pick(12);
        int houses = chance(70) ? 2 + pick(7) : pick(10);
        int rooms = chance(50) ? 2 : 4;
        int lived = pick(101);
        int wishing = pick(101);
        StringBuilder b = new StringBuilder();
        StringBuilder rules = new StringBuilder();
        for (int i = pick(8); i > 0; i--) {
            int kind = pick(6);
            int top = kind == 0 ? 3 : kind == 1 ? 4 : kind == 2 ? 3 : Oracle.MOST[kind];
            rules.append("rule ").append(Oracle.KINDS.get(kind)).append(' ')
                    .append(number(Oracle.LEAST[kind], top)).append(";");
        }
        b.append(rules);
        String[] homeNames = new String[homes];
        for (int i = 0; i < homes; i++) {
            homeNames[i] = chance(98) ? "h" + (char) ('a' + i) : NAMES[pick(NAMES.length)];
            b.append("home ").append(homeNames[i]).append(' ').append(number(1, rooms)).append(' ')
                    .append(number(0, chance(60) ? 2 : 7)).append(" ;");
        }
        int nextLived = 0;
        for (int i = 0; i < houses; i++) {
            b.append("house ").append(chance(98) ? "p" + (char) ('a' + i) : NAMES[pick(NAMES.length)]);
            b.append(' ').append(number(1, 4)).append(' ').append(number(1, rooms)).append(' ')
                    .append(number(0, chance(60) ? 2 : 7)).append(' ').append(number(0, chance(50) ? 999 : 3));
            if (pick(100) < lived && nextLived < homes) {
                b.append(" in ").append(homeNames[nextLived]);
                nextLived += chance(1) ? 0 : 1;
            }
            int wishes = pick(100) < wishing ? 1 + pick(6) : 0;
            int first = pick(Math.max(1, homes));
            int step = homes % 3 == 0 ? 1 : 3;
            for (int k = 0; k < wishes && k < homes; k++) {
                b.append(' ').append(homeNames[(first + k * step) % homes]);
            }
            if (chance(1)) {
                b.append(' ').append(NAMES[pick(NAMES.length)]);
            }
            b.append(chance(10) ? "\n;\n" : ";");
        }
        return mutated(b);
    }

    private String mutated(StringBuilder b) {
        if (chance(15) && b.length() > 0) {
            int at = pick(b.length());
            switch (pick(4)) {
                case 0 -> b.deleteCharAt(at);
                case 1 -> b.setCharAt(at, "a1; \nX\u00e9-0".charAt(pick(9)));
                case 2 -> b.insert(at, new String[] {" in ", ";", " 9 ", "home ", "z", "1234", " a b c d e f g "}[pick(7)]);
                default -> b.setLength(at);
            }
        }
        if (b.length() > 900) {
            b.setLength(900);
        }
        return b.toString();
    }

    private boolean tell(String text) {
        int length = text.length();
        String padded = text + " ".repeat((20 - length % 20) % 20);
        for (int i = 0; i < padded.length(); i += 20) {
            int[] five = new int[5];
            for (int k = 0; k < 20; k++) {
                five[k / 4] = five[k / 4] << 8 | padded.charAt(i + k);
            }
            if (!same("feed", real.feed(five[0], five[1], five[2], five[3], five[4]), model.feed(five))) {
                return false;
            }
        }
        int n = chance(97) ? length : pick(1000) - 20;
        story.append("TEXT ").append(text).append('\n');
        return same("load " + n, real.load(n), model.load(n)) && same("fault 0", real.fault(0), model.fault(0))
                && same("fault 1", real.fault(1), model.fault(1)) && same("fault 2", real.fault(2), model.fault(2));
    }

    // ---- runs

    private boolean same(String call, int got, int due) {
        calls++;
        story.append(call).append(" -> ").append(got).append('\n');
        if (got == due && real.status() == model.status) {
            return true;
        }
        story.append("  due ").append(due).append(", STATUS ").append(real.status()).append(" due ")
                .append(model.status).append('\n');
        return false;
    }

    private boolean run() {
        real = new HomesQueue();
        model = new Oracle();
        if (chance(90) && !tell(text())) {
            return false;
        }
        int most = chance(20) ? 400 : 120;
        while (calls < most) {
            if (chance(1) && !tell(text())) {
                return false;
            }
            if (!(chance(55) ? act() : ask())) {
                return false;
            }
        }
        return all();
    }

    private int home() {
        return chance(97) ? pick(Math.max(1, model.w.homes.size())) : pick(14) - 2;
    }

    private int house() {
        return chance(97) ? pick(Math.max(1, model.w.houses.size())) : pick(12) - 2;
    }

    private int what(int top) {
        return chance(96) ? pick(top + 1) : pick(40) - 5;
    }

    private boolean act() {
        int h = house();
        int m = home();
        int n = pick(12);
        switch (pick(26)) {
            case 0, 1, 2, 3, 4, 5, 6, 10, 11, 12:
                // Most of them BIDS that may be, or the runs would see few offers.
                for (int i = 0; i < 20 && chance(95) && real.why(h, m) != 0; i++) {
                    h = house();
                    m = home();
                }
                model.why(h, m);
                real.why(h, m);
                return same("bid " + h + " " + m, real.bid(h, m), model.bid(h, m));
            case 7:
                return same("unbid " + h + " " + m, real.unbid(h, m), model.unbid(h, m));
            case 8, 9:
                return chance(60) || same("auto", real.auto(), model.auto());
            case 13, 14:
                return same("week", real.week(), model.week());
            case 15, 16:
                return same("wish " + h + " " + m, real.wish(h, m), model.wish(h, m));
            case 17:
                return same("unwish " + h + " " + m, real.unwish(h, m), model.unwish(h, m));
            case 18:
                return chance(60) || same("leave " + h, real.leave(h), model.leave(h));
            case 19, 20:
                boolean yes = chance(40);
                return same("shut " + m + " " + yes, real.shut(m, yes), model.shut(m, yes));
            case 21:
                return same("need " + h + " " + n / 2, real.need(h, n / 2), model.need(h, n / 2));
            case 22, 23:
                int what = what(5);
                int to = chance(50) ? n : pick(1003) - 2;
                return same("rules " + what + " " + to, real.rules(what, to), model.rules(what, to));
            case 24:
                return same("undo", real.undo(), model.undo());
            default:
                return printed();
        }
    }

    private boolean printed() {
        if (chance(50)) {
            int i = pick(1000) - 2;
            return same("out " + i, byteAt(i), model.out(i));
        }
        if (!same("print", real.print(), model.print())) {
            return false;
        }
        for (int i = -1; i <= model.out.length(); i++) {
            if (byteAt(i) != model.out(i)) {
                return same("out " + i, byteAt(i), model.out(i));
            }
        }
        return true;
    }

    private int byteAt(int i) {
        try {
            return real.out(i);
        } catch (NoSuchElementException e) {
            return -2;
        }
    }

    private boolean ask() {
        int h = house();
        int m = home();
        int k = what(8);
        int n = chance(95) ? 1 + pick(chance(50) ? 4 : 30) : pick(40) - 4;
        boolean b = random.nextBoolean();
        switch (pick(30)) {
            case 0: k = what(9); return same("many " + k, real.many(k), model.many(k));
            case 1: k = what(7); return same("home " + m + " " + k, real.home(m, k), model.home(m, k));
            case 2: k = what(25); return same("house " + h + " " + k, real.house(h, k), model.house(h, k));
            case 3: k = what(5); return same("rule " + k, real.rule(k), model.rule(k));
            case 4: return same("why " + h + " " + m, real.why(h, m), model.why(h, m));
            case 5: return same("bids " + h + " " + m, real.bids(h, m), model.bids(h, m));
            case 6: return same("order " + m + " " + k, real.order(m, k / 2), model.order(m, k / 2));
            case 7: return same("ahead " + h + " " + m, real.ahead(h, m), model.ahead(h, m));
            case 8: k = what(1); return same("turn " + m + " " + k, real.turn(m, k), model.turn(m, k));
            case 9: return same("let " + k + " " + n, real.let(k, n % 9), model.let(k, n % 9));
            case 10: return same("offer " + k + " " + n, real.offer(k, n % 4), model.offer(k, n % 4));
            case 11: k = what(4); return same("tally " + k, real.tally(k), model.tally(k));
            case 12: k = what(4); return same("lack " + k, real.lack(k), model.lack(k));
            case 13: k = what(5); return same("weeks " + n + " " + k, real.weeks(n, k), model.weeks(n, k));
            case 14: return same("when " + h + " " + n + " " + b, real.when(h, n, b), model.when(h, n, b));
            case 15: return same("tip " + h, real.tip(h), model.tip(h));
            case 16: return same("would " + h + " " + m, real.would(h, m), model.would(h, m));
            case 17: return same("top " + m, real.top(m), model.top(m));
            case 18: int s = pick(65600) - 20; return same("lot " + m + " " + s, real.lot(m, s), model.lot(m, s));
            case 19: k = what(2); return same("fits " + h + " " + k, real.fits(h, k), model.fits(h, k));
            case 20: return same("ward " + b, real.ward(b), model.ward(b));
            case 21: k = what(2); return same("envy " + k, real.envy(k), model.envy(k));
            case 22: k = what(2); return same("lever " + n + " " + k, real.lever(n, k), model.lever(n, k));
            case 23: return same("queue " + k, real.queue(k), model.queue(k));
            case 24: return same("most", real.most(), model.most());
            case 25: return same("gift " + h, real.gift(h), model.gift(h));
            case 26: return same("trade " + h, real.trade(h), model.trade(h));
            case 27: k = what(2); return same("trades " + k, real.trades(k), model.trades(k));
            case 28: k--; return same("longest " + k + " " + b, real.longest(k, b), model.longest(k, b));
            default: return same("gap " + h + " " + m, real.gap(h, m), model.gap(h, m));
        }
    }

    /** At a run's end every question once. */
    private boolean all() {
        boolean right = true;
        for (int k = 0; k < 10 && right; k++) {
            right = same("many " + k, real.many(k), model.many(k)) && same("tally", real.tally(k), model.tally(k))
                    && same("lack", real.lack(k), model.lack(k)) && same("queue", real.queue(k), model.queue(k))
                    && same("trades", real.trades(k), model.trades(k)) && same("envy", real.envy(k), model.envy(k))
                    && same("weeks", real.weeks(9, k), model.weeks(9, k))
                    && same("lever", real.lever(5, k), model.lever(5, k))
                    && same("longest", real.longest(k - 1, false), model.longest(k - 1, false))
                    && same("longest", real.longest(k - 1, true), model.longest(k - 1, true));
            for (int h = 0; h < 30 && right; h++) {
                right = same("home", real.home(k, h), model.home(k, h))
                        && same("house", real.house(k, h), model.house(k, h))
                        && same("let", real.let(k, h), model.let(k, h))
                        && same("offer", real.offer(h, k), model.offer(h, k));
            }
            for (int h = 0; h < 10 && right; h++) {
                right = same("why", real.why(h, k), model.why(h, k)) && same("tip", real.tip(h), model.tip(h))
                        && same("would", real.would(h, k), model.would(h, k))
                        && same("ahead", real.ahead(h, k), model.ahead(h, k))
                        && same("gap", real.gap(h, k), model.gap(h, k))
                        && same("order", real.order(k, h), model.order(k, h))
                        && same("gift", real.gift(h), model.gift(h)) && same("trade", real.trade(h), model.trade(h))
                        && same("top", real.top(k), model.top(k)) && same("lot", real.lot(k, h), model.lot(k, h))
                        && same("fits", real.fits(h, k), model.fits(h, k));
            }
        }
        return right;
    }
}
