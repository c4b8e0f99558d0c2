import java.util.ArrayDeque;
import java.util.ArrayList;
import java.util.Arrays;
import java.util.Comparator;
import java.util.Deque;
import java.util.HashSet;
import java.util.List;
import java.util.Set;
import java.util.regex.Matcher;
import java.util.regex.Pattern;

/**
 * The document once more, in the plainest way that came to mind (lists, copies, all ways tried one by
 * one), to be held against HomesQueue. It shares no code with it. Every call leaves status and answer.
 */
final class Oracle {
    static final int NONE = -1;
    static final List<String> KINDS = List.of("refuse", "bar", "local", "quota", "age", "bids");
    static final int[] LEAST = {1, 1, 0, 0, 1, 1};
    static final int[] MOST = {9, 52, 9, 100, 999, 3};

    static final class Place {
        String name;
        int rooms, ward, lets, idle, freedByChain;
        boolean leftThisWeek, shut;

        Place twin() {
            Place p = new Place();
            p.name = name;
            p.rooms = rooms;
            p.ward = ward;
            p.lets = lets;
            p.idle = idle;
            p.freedByChain = freedByChain;
            p.leftThisWeek = leftThisWeek;
            p.shut = shut;
            return p;
        }
    }

    static final class Family {
        String name;
        int band, need, tie, day, lives = NONE, refusals, barred, passed;
        boolean out, barredThisWeek;
        List<Integer> wishes = new ArrayList<>();
        Set<Integer> bids = new HashSet<>();

        Family twin() {
            Family f = new Family();
            f.name = name;
            f.band = band;
            f.need = need;
            f.tie = tie;
            f.day = day;
            f.lives = lives;
            f.refusals = refusals;
            f.barred = barred;
            f.passed = passed;
            f.out = out;
            f.barredThisWeek = barredThisWeek;
            f.wishes = new ArrayList<>(wishes);
            f.bids = new HashSet<>(bids);
            return f;
        }
    }

    record Let(int house, int home, int week, int chain, boolean local, boolean quota, int offer, int band,
            boolean moved, boolean tied) { }

    record Offer(int house, int home, boolean taken) { }

    static final class World {
        List<Place> homes = new ArrayList<>();
        List<Family> houses = new ArrayList<>();
        int[] rules = {3, 4, 0, 0, 999, 2};
        int week;
        int refusals;
        List<Let> lets = new ArrayList<>();
        List<Offer> offers = new ArrayList<>();

        World twin() {
            World w = new World();
            for (Place p : homes) {
                w.homes.add(p.twin());
            }
            for (Family f : houses) {
                w.houses.add(f.twin());
            }
            w.rules = rules.clone();
            w.week = week;
            w.refusals = refusals;
            w.lets = new ArrayList<>(lets);
            w.offers = new ArrayList<>(offers);
            return w;
        }

        int tenant(int home) {
            for (int i = 0; i < houses.size(); i++) {
                if (houses.get(i).lives == home) {
                    return i;
                }
            }
            return NONE;
        }

        boolean free(int home) {
            Place p = homes.get(home);
            return tenant(home) == NONE && !p.leftThisWeek && !p.shut;
        }

        int waited(int house) {
            return 1000 + 7 * week - houses.get(house).day;
        }

        int bandNow(int house) {
            int band = houses.get(house).band;
            for (int days = rules[4]; days <= waited(house) && band > 1; days += rules[4]) {
                band--;
            }
            return band;
        }

        boolean fits(int house, int home) {
            int spareRooms = homes.get(home).rooms - houses.get(house).need;
            return spareRooms == 0 || spareRooms == 1;
        }

        boolean able(int house) {
            return !houses.get(house).out && houses.get(house).barred == 0;
        }

        boolean takes(int house, int home) {
            List<Integer> w = houses.get(house).wishes;
            return w.isEmpty() || w.contains(home);
        }

        boolean givable(int house, int home) {
            return able(house) && fits(house, home) && takes(house, home);
        }

        int why(int house, int home) {
            Family f = houses.get(house);
            if (f.out) return 1;
            if (f.barred > 0) return 2;
            if (!free(home)) return 3;
            if (!fits(house, home)) return 4;
            if (f.bids.contains(home)) return 5;
            if (f.bids.size() >= rules[5]) return 6;
            return 0;
        }

        boolean localTurn(int home) {
            if (rules[2] == 0) return false;
            int n = 1;
            for (Let l : lets) {
                if (homes.get(l.home).ward == homes.get(home).ward) n++;
            }
            return n % rules[2] == 0;
        }

        boolean quotaTurn() {
            int moved = 0;
            for (Let l : lets) {
                if (l.moved) moved++;
            }
            return 100 * moved < rules[3] * lets.size();
        }

        Comparator<Integer> plainOrder() {
            return Comparator.<Integer>comparingInt(this::bandNow)
                    .thenComparingInt(h -> houses.get(h).day).thenComparingInt(h -> h);
        }

        Comparator<Integer> order(int home) {
            boolean local = localTurn(home);
            boolean quota = quotaTurn();
            Comparator<Integer> byTie =
                    Comparator.comparingInt(h -> local && houses.get(h).tie != homes.get(home).ward ? 1 : 0);
            Comparator<Integer> byHome =
                    Comparator.comparingInt(h -> quota && houses.get(h).lives == NONE ? 1 : 0);
            return byTie.thenComparing(byHome).thenComparing(plainOrder());
        }

        List<Integer> bidders(int home) {
            List<Integer> all = new ArrayList<>();
            for (int i = 0; i < houses.size(); i++) {
                if (houses.get(i).bids.contains(home)) all.add(i);
            }
            all.sort(order(home));
            return all;
        }

        int auto() {
            int added = 0;
            for (int i = 0; i < houses.size(); i++) {
                List<Integer> liked = new ArrayList<>(houses.get(i).wishes);
                for (int h = 0; h < homes.size() && houses.get(i).wishes.isEmpty(); h++) {
                    liked.add(h);
                }
                for (int home : liked) {
                    if (why(i, home) == 0) {
                        houses.get(i).bids.add(home);
                        added++;
                    }
                }
            }
            return added;
        }

        int endWeek() {
            List<Integer> freeNow = new ArrayList<>();
            for (int h = 0; h < homes.size(); h++) {
                if (free(h)) freeNow.add(h);
            }
            offers.clear();
            int before = lets.size();
            for (int home : freeNow) {
                int offered = 0;
                boolean gone = false;
                for (int house : bidders(home)) {
                    if (gone || offered == 3 || !able(house)) continue;
                    offered++;
                    gone = takes(house, home);
                    offers.add(new Offer(house, home, gone));
                    if (gone) {
                        take(house, home, offered);
                    } else {
                        refuse(house);
                    }
                }
                if (!gone) homes.get(home).idle++;
            }
            for (Place p : homes) {
                p.leftThisWeek = false;
            }
            for (Family f : houses) {
                f.bids.clear();
                if (f.barred > 0 && !f.barredThisWeek) f.barred--;
                f.barredThisWeek = false;
            }
            week++;
            return lets.size() - before;
        }

        void refuse(int house) {
            Family f = houses.get(house);
            refusals++;
            f.refusals++;
            if (f.refusals >= rules[0]) {
                f.refusals = 0;
                f.barred = rules[1];
                f.barredThisWeek = true;
            }
        }

        void take(int house, int home, int offered) {
            Family f = houses.get(house);
            Place p = homes.get(home);
            int chain = 1 + p.freedByChain;
            for (int i = 0; i < houses.size(); i++) {
                if (i != house && houses.get(i).bids.contains(home) && able(i) && bandNow(i) < bandNow(house)) {
                    houses.get(i).passed++;
                }
            }
            lets.add(new Let(house, home, week, chain, localTurn(home), quotaTurn(), offered, bandNow(house),
                    f.lives != NONE, f.tie == p.ward));
            if (f.lives != NONE) {
                homes.get(f.lives).leftThisWeek = true;
                homes.get(f.lives).freedByChain = chain;
            }
            f.lives = home;
            f.out = true;
            p.lets++;
        }

        World ahead(int n) {
            World w = twin();
            for (int i = 0; i < n; i++) {
                w.auto();
                w.endWeek();
            }
            return w;
        }

        int waitingCount() {
            return (int) houses.stream().filter(f -> !f.out).count();
        }

        int freeCount() {
            int n = 0;
            for (int h = 0; h < homes.size(); h++) {
                if (free(h)) n++;
            }
            return n;
        }

        int passedCount() {
            return houses.stream().mapToInt(f -> f.passed).sum();
        }

        int maxChain() {
            return lets.stream().mapToInt(Let::chain).max().orElse(0);
        }
    }

    World w = new World();
    int status;
    final List<Integer> tape = new ArrayList<>();
    final Deque<World> past = new ArrayDeque<>();
    int faultKind = NONE;
    int faultPlace = NONE;
    String out;

    private int no(int s) {
        status = s;
        return NONE;
    }

    private int yes(int n) {
        status = 0;
        return n;
    }

    private boolean isHome(int h) {
        return 0 <= h && h < w.homes.size();
    }

    private boolean isHouse(int h) {
        return 0 <= h && h < w.houses.size();
    }

    private void act() {
        past.addLast(w.twin());
        if (past.size() > 12) past.removeFirst();
    }

    int feed(int... five) {
        if (tape.size() > 880) return NONE;
        for (int x : five) {
            for (int i = 3; i >= 0; i--) {
                tape.add((x >> (8 * i)) & 0xff);
            }
        }
        return tape.size();
    }

    // ---- the TEXT

    private static final class Fault extends RuntimeException {
        private static final long serialVersionUID = 1;
        final int kind, place;

        Fault(int kind, int place) {
            this.kind = kind;
            this.place = place;
        }
    }

    private static final class Tok {
        final int at;
        final String text;

        Tok(int at, String text) {
            this.at = at;
            this.text = text;
        }
    }

    private final class Parser {
        final List<Tok> toks = new ArrayList<>();
        final World into = new World();
        final Set<String> names = new HashSet<>();
        int i;

        Parser(String text) {
            Matcher m = Pattern.compile("[a-z]+|[0-9]+|;|[^ \n]", Pattern.DOTALL).matcher(text);
            while (m.find()) {
                toks.add(new Tok(m.start(), m.group()));
            }
            toks.add(new Tok(text.length(), ""));
        }

        Tok peek() {
            return toks.get(i);
        }

        Tok want(String form) {
            Tok t = peek();
            if (!t.text.matches("[a-z]{1,8}|[0-9]{1,3}|;|")) throw new Fault(1, t.at);
            if (!t.text.matches(form)) throw new Fault(2, t.at);
            i++;
            return t;
        }

        int number(int least, int most) {
            Tok t = want("[0-9]+");
            int n = Integer.parseInt(t.text);
            if (n < least || n > most) throw new Fault(3, t.at);
            return n;
        }

        static final String NOT = "(?!(home|house|rule|in|refuse|bar|local|quota|age|bids)$)";

        String newName() {
            Tok t = want(NOT + "[a-z]+");
            if (!names.add(t.text)) throw new Fault(4, t.at);
            return t.text;
        }

        int homeOf(String name) {
            for (int h = 0; h < into.homes.size(); h++) {
                if (into.homes.get(h).name.equals(name)) return h;
            }
            return NONE;
        }

        World all() {
            while (!peek().text.isEmpty()) {
                Tok t = want("home|house|rule");
                if (t.text.equals("home")) home(t);
                if (t.text.equals("house")) house(t);
                if (t.text.equals("rule")) rule();
            }
            return into;
        }

        void home(Tok first) {
            if (into.homes.size() == 10) throw new Fault(5, first.at);
            Place p = new Place();
            p.name = newName();
            p.rooms = number(1, 4);
            p.ward = number(0, 7);
            want(";");
            into.homes.add(p);
        }

        void house(Tok first) {
            if (into.houses.size() == 8) throw new Fault(5, first.at);
            Family f = new Family();
            f.name = newName();
            f.band = number(1, 4);
            f.need = number(1, 4);
            f.tie = number(0, 7);
            f.day = number(0, 999);
            if (peek().text.equals("in")) {
                i++;
                Tok t = want(NOT + "[a-z]+");
                f.lives = homeOf(t.text);
                if (f.lives == NONE || into.tenant(f.lives) != NONE) throw new Fault(4, t.at);
            }
            while (true) {
                Tok t = want(";|" + NOT + "[a-z]+");
                if (t.text.equals(";")) break;
                int h = homeOf(t.text);
                if (h == NONE || f.wishes.contains(h)) throw new Fault(4, t.at);
                if (f.wishes.size() == 6) throw new Fault(5, t.at);
                f.wishes.add(h);
            }
            into.houses.add(f);
        }

        void rule() {
            int kind = KINDS.indexOf(want("refuse|bar|local|quota|age|bids").text);
            into.rules[kind] = number(LEAST[kind], MOST[kind]);
            want(";");
        }
    }

    int load(int n) {
        if (n < 0 || n > tape.size()) return no(1);
        StringBuilder text = new StringBuilder();
        for (int i = 0; i < n; i++) {
            text.append((char) (int) tape.get(i));
        }
        tape.clear();
        try {
            w = new Parser(text.toString()).all();
        } catch (Fault f) {
            faultKind = f.kind;
            faultPlace = f.place;
            return no(9);
        }
        faultKind = 0;
        faultPlace = NONE;
        past.clear();
        return yes(w.houses.size());
    }

    int fault(int what) {
        return what == 0 ? faultKind : what == 1 ? faultPlace : NONE;
    }

    // ---- what is told

    int many(int what) {
        int bids = w.houses.stream().mapToInt(f -> f.bids.size()).sum();
        int[] all = {w.homes.size(), w.houses.size(), w.week, w.lets.size(), bids, w.freeCount(),
            w.waitingCount(), past.size(), w.refusals, w.offers.size()};
        return what < 0 || what > 9 ? no(1) : yes(all[what]);
    }

    int home(int home, int what) {
        if (what < 0 || what > 7) return no(1);
        if (!isHome(home)) return no(2);
        Place p = w.homes.get(home);
        if (what == 2 && w.tenant(home) == NONE) return no(5);
        int[] all = {p.rooms, p.ward, w.tenant(home), w.free(home) ? 1 : 0, w.bidders(home).size(), p.lets,
            p.shut ? 1 : 0, p.idle};
        return yes(all[what]);
    }

    int house(int house, int what) {
        boolean wish = what >= 20 && what <= 25;
        if (!wish && (what < 0 || what > 11)) return no(1);
        if (!isHouse(house)) return no(2);
        Family f = w.houses.get(house);
        if (wish) return what - 20 < f.wishes.size() ? yes(f.wishes.get(what - 20)) : no(5);
        if (what == 5 && f.lives == NONE) return no(5);
        int[] all = {f.band, w.bandNow(house), f.need, f.tie, f.day, f.lives, f.refusals, f.barred,
            f.out ? 1 : 0, f.bids.size(), f.wishes.size(), f.passed};
        return yes(all[what]);
    }

    int rule(int what) {
        return what < 0 || what > 5 ? no(1) : yes(w.rules[what]);
    }

    int why(int house, int home) {
        return !isHouse(house) || !isHome(home) ? no(2) : yes(w.why(house, home));
    }

    int bids(int house, int home) {
        return !isHouse(house) || !isHome(home) ? no(2) : yes(w.houses.get(house).bids.contains(home) ? 1 : 0);
    }

    int order(int home, int k) {
        if (k < 0) return no(1);
        if (!isHome(home)) return no(2);
        List<Integer> all = w.bidders(home);
        return k >= all.size() ? no(5) : yes(all.get(k));
    }

    int ahead(int house, int home) {
        if (!isHouse(house) || !isHome(home)) return no(2);
        if (!w.able(house) || !w.fits(house, home)) return no(5);
        List<Integer> all = new ArrayList<>();
        for (int i = 0; i < w.houses.size(); i++) {
            if (w.able(i) && w.fits(i, home)) all.add(i);
        }
        all.sort(w.order(home));
        return yes(all.indexOf(house));
    }

    int turn(int home, int what) {
        if (what < 0 || what > 1) return no(1);
        if (!isHome(home)) return no(2);
        return yes((what == 0 ? w.localTurn(home) : w.quotaTurn()) ? 1 : 0);
    }

    int let(int k, int what) {
        if (what < 0 || what > 7) return no(1);
        if (k < 0 || k >= w.lets.size()) return no(2);
        Let l = w.lets.get(k);
        int[] all = {l.house, l.home, l.week, l.chain, l.local ? 1 : 0, l.quota ? 1 : 0, l.offer, l.band};
        return yes(all[what]);
    }

    int offer(int k, int what) {
        if (what < 0 || what > 2) return no(1);
        if (k < 0 || k >= w.offers.size()) return no(2);
        Offer o = w.offers.get(k);
        return yes(what == 0 ? o.house : what == 1 ? o.home : o.taken ? 1 : 0);
    }

    int tally(int what) {
        switch (what) {
            case 0: return yes(w.maxChain());
            case 1: return yes((int) w.lets.stream().filter(l -> l.chain == 1).count());
            case 2: return yes((int) w.lets.stream().filter(l -> l.moved).count());
            case 3: return yes((int) w.lets.stream().filter(l -> l.tied).count());
            case 4: return yes(w.passedCount());
            default: return no(1);
        }
    }

    int lack(int rooms) {
        if (rooms < 1 || rooms > 4) return no(1);
        int lack = (int) w.houses.stream().filter(f -> !f.out && f.need == rooms).count();
        for (int h = 0; h < w.homes.size(); h++) {
            if (w.free(h) && w.homes.get(h).rooms == rooms) lack--;
        }
        return yes(lack);
    }

    // ---- what could be

    int weeks(int n, int what) {
        if (n < 0 || n > 30 || what < 0 || what > 5) return no(1);
        World v = w.ahead(n);
        int[] all = {v.lets.size() - w.lets.size(), v.refusals - w.refusals, v.freeCount(), v.waitingCount(),
            v.maxChain(), v.passedCount() - w.passedCount()};
        return yes(all[what]);
    }

    int when(int house, int n, boolean ofHome) {
        if (n < 1 || n > 30) return no(1);
        if (!isHouse(house)) return no(2);
        if (w.houses.get(house).out) return no(4);
        for (Let l : w.ahead(n).lets) {
            if (l.house == house) return yes(ofHome ? l.home : l.week);
        }
        return no(5);
    }

    int tip(int house) {
        if (!isHouse(house)) return no(2);
        Family f = w.houses.get(house);
        int best = NONE;
        int bestAhead = 0;
        for (int home = 0; home < w.homes.size(); home++) {
            boolean may = w.why(house, home) == 0 || f.bids.contains(home);
            if (!may || !w.takes(house, home)) continue;
            List<Integer> all = w.bidders(home);
            if (!all.contains(house)) all.add(house);
            all.sort(w.order(home));
            int ahead = all.indexOf(house);
            boolean dearer = best != NONE && f.wishes.indexOf(home) < f.wishes.indexOf(best);
            if (best == NONE || ahead < bestAhead || (ahead == bestAhead && dearer)) {
                best = home;
                bestAhead = ahead;
            }
        }
        return best == NONE ? no(5) : yes(best);
    }

    int would(int house, int home) {
        if (!isHouse(house) || !isHome(home)) return no(2);
        if (!w.able(house) || !w.free(home) || !w.fits(house, home)) return no(5);
        World v = w.twin();
        v.houses.get(house).bids.clear();
        v.houses.get(house).bids.add(home);
        v.endWeek();
        if (v.houses.get(house).lives == home) return yes(1);
        return yes(v.offers.contains(new Offer(house, home, false)) ? 2 : 0);
    }

    private List<Integer> givableTo(int home) {
        List<Integer> all = new ArrayList<>();
        for (int i = 0; i < w.houses.size(); i++) {
            if (w.givable(i, home)) all.add(i);
        }
        return all;
    }

    int top(int home) {
        if (!isHome(home)) return no(2);
        return givableTo(home).stream().min(w.order(home)).map(this::yes).orElseGet(() -> no(5));
    }

    int lot(int home, int seed) {
        if (seed < 0 || seed > 65536) return no(1);
        if (!isHome(home)) return no(2);
        List<Integer> numbers = new ArrayList<>();
        for (int i : givableTo(home)) {
            for (int k = 0; k < Math.max(1, w.waited(i) / 7); k++) {
                numbers.add(i);
            }
        }
        if (numbers.isEmpty()) return no(5);
        long x = (75L * seed + 74) % 65537;
        return yes(numbers.get((int) (x % numbers.size())));
    }

    int fits(int house, int what) {
        if (what < 0 || what > 2) return no(1);
        if (!isHouse(house)) return no(2);
        int bits = 0;
        for (int h = 0; h < w.homes.size(); h++) {
            boolean in = what == 0 || (what == 1 ? w.free(h) : w.takes(house, h));
            if (in && w.fits(house, h)) bits += 1 << h;
        }
        return yes(bits);
    }

    int ward(boolean much) {
        if (w.homes.isEmpty()) return no(5);
        int best = NONE;
        int bestBy = Integer.MIN_VALUE;
        for (int ward = 0; ward < 8; ward++) {
            int wd = ward;
            if (w.homes.stream().noneMatch(p -> p.ward == wd)) continue;
            int by = (int) w.houses.stream().filter(f -> !f.out && f.tie == wd).count();
            for (int h = 0; h < w.homes.size(); h++) {
                if (w.homes.get(h).ward == ward && w.free(h)) by--;
            }
            if (by > bestBy) {
                bestBy = by;
                best = ward;
            }
        }
        return yes(much ? bestBy : best);
    }

    private boolean rather(int house, int home) {
        Family f = w.houses.get(house);
        int there = f.wishes.indexOf(home);
        int here = f.wishes.indexOf(f.lives);
        return there >= 0 && w.fits(house, home) && (here < 0 || there < here);
    }

    int envy(int what) {
        if (what < 0 || what > 2) return no(1);
        List<int[]> couples = new ArrayList<>();
        for (int i = 0; i < w.houses.size(); i++) {
            for (int j = i + 1; j < w.houses.size(); j++) {
                int a = w.houses.get(i).lives;
                int b = w.houses.get(j).lives;
                if (a != NONE && b != NONE && rather(i, b) && rather(j, a)) couples.add(new int[] {i, j});
            }
        }
        if (what == 0) return yes(couples.size());
        return couples.isEmpty() ? no(5) : yes(couples.get(0)[what - 1]);
    }

    int lever(int n, int what) {
        if (n < 1 || n > 30 || what < 0 || what > 2) return no(1);
        int[] best = {NONE, NONE, NONE};
        for (int r = 0; r < 6; r++) {
            for (int to : new int[] {w.rules[r] - 1, w.rules[r] + 1}) {
                if (to < LEAST[r] || to > MOST[r]) continue;
                World v = w.twin();
                v.rules[r] = to;
                int lets = v.ahead(n).lets.size() - w.lets.size();
                if (lets > best[0]) best = new int[] {lets, r, to};
            }
        }
        return yes(best[what]);
    }

    int queue(int k) {
        if (k < 0) return no(1);
        List<Integer> all = new ArrayList<>();
        for (int i = 0; i < w.houses.size(); i++) {
            if (!w.houses.get(i).out) all.add(i);
        }
        all.sort(w.plainOrder());
        return k >= all.size() ? no(5) : yes(all.get(k));
    }

    // All ways, the lesser HOMES first and none last, so the first of the largest ones stays.
    private void gifts(int house, int[] way, int placed, int[][] best, int[] bestPlaced) {
        if (house == w.houses.size()) {
            if (placed > bestPlaced[0]) {
                bestPlaced[0] = placed;
                best[0] = way.clone();
            }
            return;
        }
        if (placed + w.houses.size() - house <= bestPlaced[0]) return;
        for (int h = 0; h < w.homes.size(); h++) {
            int home = h;
            boolean given = Arrays.stream(way, 0, house).anyMatch(x -> x == home);
            if (given || !w.free(h) || !w.givable(house, h)) continue;
            way[house] = h;
            gifts(house + 1, way, placed + 1, best, bestPlaced);
        }
        way[house] = NONE;
        gifts(house + 1, way, placed, best, bestPlaced);
    }

    private int[] gift() {
        int[][] best = new int[1][];
        gifts(0, new int[w.houses.size()], 0, best, new int[] {NONE});
        return best[0];
    }

    int most() {
        return yes((int) Arrays.stream(gift()).filter(h -> h != NONE).count());
    }

    int gift(int house) {
        if (!isHouse(house)) return no(2);
        int got = gift()[house];
        return got == NONE ? no(5) : yes(got);
    }

    // All circles of a round trade at once.
    private List<List<Integer>> circles(int[] got) {
        Arrays.fill(got, NONE);
        List<List<Integer>> circles = new ArrayList<>();
        Set<Integer> rest = new HashSet<>();
        for (int i = 0; i < w.houses.size(); i++) {
            if (w.houses.get(i).lives != NONE) rest.add(i);
        }
        while (!rest.isEmpty()) {
            int[] looks = new int[w.houses.size()];
            for (int i : rest) {
                looks[i] = i;
                for (int home : w.houses.get(i).wishes) {
                    if (w.fits(i, home) && rest.contains(w.tenant(home))) {
                        looks[i] = w.tenant(home);
                        break;
                    }
                }
            }
            Set<Integer> gone = new HashSet<>();
            for (int i : rest) {
                List<Integer> way = new ArrayList<>();
                int at = i;
                while (!way.contains(at)) {
                    way.add(at);
                    at = looks[at];
                }
                if (at != i || gone.contains(i)) continue;
                for (int j : way) {
                    got[j] = w.houses.get(looks[j]).lives;
                }
                gone.addAll(way);
                circles.add(way);
            }
            rest.removeAll(gone);
        }
        return circles;
    }

    int trade(int house) {
        if (!isHouse(house)) return no(2);
        int[] got = new int[w.houses.size()];
        circles(got);
        return got[house] == NONE ? no(5) : yes(got[house]);
    }

    int trades(int what) {
        if (what < 0 || what > 2) return no(1);
        int[] got = new int[w.houses.size()];
        List<List<Integer>> circles = circles(got);
        if (what == 1) return yes((int) circles.stream().filter(c -> c.size() > 1).count());
        if (what == 2) return yes(circles.stream().mapToInt(List::size).max().orElse(0));
        int moved = 0;
        for (int i = 0; i < got.length; i++) {
            if (got[i] != w.houses.get(i).lives) moved++;
        }
        return yes(moved);
    }

    private void rows(int home, List<int[]> row, List<List<int[]>> best) {
        if (row.size() > best.get(0).size()) best.set(0, new ArrayList<>(row));
        if (home == NONE) return;
        for (int i = 0; i < w.houses.size(); i++) {
            int house = i;
            if (!w.givable(i, home) || row.stream().anyMatch(m -> m[0] == house)) continue;
            row.add(new int[] {i, home});
            rows(w.houses.get(i).lives, row, best);
            row.remove(row.size() - 1);
        }
    }

    int longest(int k, boolean ofHome) {
        if (k < NONE) return no(1);
        List<List<int[]>> best = new ArrayList<>();
        best.add(new ArrayList<>());
        for (int h = 0; h < w.homes.size(); h++) {
            if (w.free(h)) rows(h, new ArrayList<>(), best);
        }
        List<int[]> row = best.get(0);
        if (k == NONE) return yes(row.size());
        return k >= row.size() ? no(5) : yes(row.get(k)[ofHome ? 1 : 0]);
    }

    int gap(int house, int home) {
        if (!isHouse(house) || !isHome(home)) return no(2);
        if (!w.able(house) || !w.fits(house, home)) return no(5);
        for (int up = 0; up <= 3; up++) {
            World v = w.twin();
            // Told as a BAND, so that BAND NOW is that many less, 1 at least.
            v.houses.get(house).band = w.houses.get(house).band - up;
            if (v.houses.get(house).band < 1) v.houses.get(house).band = 1;
            v.houses.get(house).bids.add(home);
            if (v.bidders(home).get(0) == house) return yes(up);
        }
        return no(5);
    }

    // ---- acts

    int bid(int house, int home) {
        if (!isHouse(house) || !isHome(home)) return no(2);
        if (w.why(house, home) != 0) return no(7);
        act();
        w.houses.get(house).bids.add(home);
        return yes(w.houses.get(house).bids.size());
    }

    int unbid(int house, int home) {
        if (!isHouse(house) || !isHome(home)) return no(2);
        if (!w.houses.get(house).bids.contains(home)) return no(5);
        act();
        w.houses.get(house).bids.remove(home);
        return yes(w.houses.get(house).bids.size());
    }

    int auto() {
        if (w.twin().auto() == 0) return no(4);
        act();
        return yes(w.auto());
    }

    int week() {
        if (w.week == 999) return no(3);
        act();
        return yes(w.endWeek());
    }

    int wish(int house, int home) {
        if (!isHouse(house) || !isHome(home)) return no(2);
        List<Integer> wishes = w.houses.get(house).wishes;
        if (wishes.contains(home)) return no(4);
        if (wishes.size() == 6) return no(3);
        act();
        wishes.add(home);
        return yes(wishes.size());
    }

    int unwish(int house, int home) {
        if (!isHouse(house) || !isHome(home)) return no(2);
        List<Integer> wishes = w.houses.get(house).wishes;
        if (!wishes.contains(home)) return no(5);
        act();
        wishes.remove((Integer) home);
        return yes(wishes.size());
    }

    int leave(int house) {
        if (!isHouse(house)) return no(2);
        Family f = w.houses.get(house);
        if (f.out) return no(4);
        act();
        if (f.lives != NONE) {
            w.homes.get(f.lives).leftThisWeek = true;
            f.lives = NONE;
        }
        f.out = true;
        f.bids.clear();
        return yes(w.waitingCount());
    }

    int shut(int home, boolean to) {
        if (!isHome(home)) return no(2);
        if (w.homes.get(home).shut == to) return no(4);
        act();
        w.homes.get(home).shut = to;
        for (Family f : w.houses) {
            if (to) f.bids.remove(home);
        }
        return yes(w.freeCount());
    }

    int need(int house, int need) {
        if (need < 1 || need > 4) return no(1);
        if (!isHouse(house)) return no(2);
        Family f = w.houses.get(house);
        int was = f.need;
        if (was == need) return no(4);
        act();
        f.need = need;
        f.bids.removeIf(home -> !w.fits(house, home));
        return yes(was);
    }

    int rules(int what, int n) {
        if (what < 0 || what > 5 || n < LEAST[what] || n > MOST[what]) return no(1);
        int was = w.rules[what];
        if (was == n) return no(4);
        act();
        w.rules[what] = n;
        return yes(was);
    }

    int undo() {
        if (past.isEmpty()) return no(5);
        w = past.removeLast();
        return yes(past.size());
    }

    private boolean printed(int home) {
        int t = w.tenant(home);
        return !w.homes.get(home).shut && (t == NONE || !w.houses.get(t).out);
    }

    int print() {
        StringBuilder b = new StringBuilder();
        for (int r = 0; r < 6; r++) {
            b.append("rule " + KINDS.get(r) + " " + w.rules[r] + ";");
        }
        for (int h = 0; h < w.homes.size(); h++) {
            Place p = w.homes.get(h);
            if (printed(h)) b.append("home " + p.name + " " + p.rooms + " " + p.ward + ";");
        }
        for (Family f : w.houses) {
            if (f.out) continue;
            b.append("house " + f.name + " " + f.band + " " + f.need + " " + f.tie + " " + f.day);
            if (f.lives != NONE && printed(f.lives)) b.append(" in " + w.homes.get(f.lives).name);
            for (int h : f.wishes) {
                if (printed(h)) b.append(" " + w.homes.get(h).name);
            }
            b.append(";");
        }
        out = b.toString();
        return yes(out.length());
    }

    /** Byte i, or -2 for the exception. */
    int out(int i) {
        return out == null || i < 0 || i >= out.length() ? -2 : out.charAt(i);
    }
}
