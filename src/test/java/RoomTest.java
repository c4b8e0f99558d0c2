import java.lang.management.ManagementFactory;
import java.lang.reflect.Array;
import java.lang.reflect.Field;
import java.lang.reflect.InvocationTargetException;
import java.lang.reflect.Method;
import java.lang.reflect.Modifier;
import java.util.ArrayDeque;
import java.util.ArrayList;
import java.util.Deque;
import java.util.IdentityHashMap;
import java.util.List;
import java.util.NoSuchElementException;
import java.util.Random;

/** What an object holds is small, no call makes anything, and none throws but out(), for any arguments. */
public final class RoomTest {
    private static final int[] EDGES = {Integer.MIN_VALUE, Integer.MAX_VALUE, -2, -1, 0, 1, 2, 3, 7, 8, 9, 10, 20, 25,
        26, 30, 31, 900, 999, 65536, 65537, 1 << 16, 1 << 31, 0x3b3b3b3b, 0x686f6d65};
    private static int wrong;

    public static void main(String[] args) throws Exception {
        countRoom();
        countMakings();
        anyArguments();
        System.out.println("RoomTest: " + (wrong == 0 ? "all is as due" : wrong + " wrong"));
        if (wrong != 0) {
            System.exit(1);
        }
    }

    private static void check(boolean right, String what) {
        if (!right) {
            wrong++;
            System.out.println(what);
        }
    }

    /** Objects and arrays, and their fields and elements, that hang on one HomesQueue. */
    private static void countRoom() throws Exception {
        IdentityHashMap<Object, Boolean> seen = new IdentityHashMap<>();
        Deque<Object> open = new ArrayDeque<>();
        open.add(new HomesQueue());
        long cells = 0;
        while (!open.isEmpty()) {
            Object o = open.remove();
            if (seen.put(o, true) != null) {
                continue;
            }
            if (o.getClass().isArray()) {
                cells += Array.getLength(o);
                for (int i = 0; !o.getClass().getComponentType().isPrimitive() && i < Array.getLength(o); i++) {
                    open.add(Array.get(o, i));
                }
                continue;
            }
            for (Field f : o.getClass().getDeclaredFields()) {
                if (!Modifier.isStatic(f.getModifiers())) {
                    cells++;
                    f.setAccessible(true);
                    if (!f.getType().isPrimitive()) {
                        open.add(f.get(o));
                    }
                }
            }
        }
        System.out.println("RoomTest: " + seen.size() + " objects, " + cells + " fields and elements");
        check(seen.size() <= 1000 && cells <= 20000, "one object takes too much room");
    }

    private static HomesQueue told() {
        HomesQueue x = new HomesQueue();
        StringBuilder b = new StringBuilder("rule local 2;rule quota 40;");
        for (int i = 0; i < 10; i++) {
            b.append("home ").append((char) ('a' + i)).append(" 2 ").append(i % 3).append(';');
        }
        for (int i = 0; i < 8; i++) {
            b.append("house p").append((char) ('a' + i)).append(" 3 2 ").append(i % 3).append(" 400 in ").append((char) ('a' + i));
            b.append(i % 2 == 0 ? " j i a b c d;" : ";");
        }
        int length = b.length();
        b.append(" ".repeat(20));
        for (int i = 0; i + 20 <= b.length(); i += 20) {
            int[] n = new int[5];
            for (int k = 0; k < 20; k++) {
                n[k / 4] = n[k / 4] << 8 | b.charAt(i + k);
            }
            x.feed(n[0], n[1], n[2], n[3], n[4]);
        }
        check(x.load(length) == 8, "load");
        return x;
    }

    private static int everyCall(HomesQueue x, int i) {
        int h = i % 8;
        int m = i % 10;
        int sum = x.many(i % 10) + x.home(m, i % 8) + x.house(h, i % 12) + x.rule(i % 6) + x.why(h, m) + x.bids(h, m);
        sum += x.bid(h, m) + x.order(m, 0) + x.ahead(h, m) + x.turn(m, 0) + x.let(0, 0) + x.offer(0, 0) + x.tally(i % 5);
        sum += x.lack(1) + x.weeks(30, i % 6) + x.when(h, 30, true) + x.tip(h) + x.would(h, m) + x.top(m) + x.lot(m, i);
        sum += x.fits(h, 2) + x.ward(true) + x.envy(1) + x.lever(30, 1) + x.queue(1) + x.most() + x.gift(h) + x.trade(h);
        sum += x.trades(2) + x.longest(0, true) + x.gap(h, m) + x.unbid(h, m) + x.auto() + x.week() + x.wish(h, m);
        sum += x.unwish(h, m) + x.shut(m, true) + x.need(h, 3) + x.rules(0, i % 9) + x.leave(h);
        for (int k = i % 3; k < 9; k++) {
            sum += x.undo();
        }
        x.print();
        sum += x.out(3) + x.status() + x.fault(0) + x.feed(1, 2, 3, 4, 5);
        return sum;
    }

    private static void countMakings() {
        com.sun.management.ThreadMXBean bean = (com.sun.management.ThreadMXBean) ManagementFactory.getThreadMXBean();
        long id = Thread.currentThread().getId();
        HomesQueue x = told();
        int sum = 0;
        for (int i = 0; i < 20; i++) {
            sum += everyCall(x, i);
        }
        bean.getThreadAllocatedBytes(id);
        long before = bean.getThreadAllocatedBytes(id);
        for (int i = 0; i < 100; i++) {
            sum += everyCall(x, i);
        }
        long made = bean.getThreadAllocatedBytes(id) - before;
        System.out.println("RoomTest: 100 rounds of every call made " + made + " bytes (" + sum + ")");
        check(made < 10000, "calls make objects");
    }

    private static void anyArguments() throws Exception {
        List<Method> face = new ArrayList<>();
        for (Method m : HomesQueue.class.getDeclaredMethods()) {
            if (Modifier.isPublic(m.getModifiers())) {
                face.add(m);
            }
        }
        face.sort((a, b) -> a.getName().compareTo(b.getName()));
        check(face.size() == 48 - 1, "the face has " + face.size() + " methods");
        Random random = new Random(7);
        for (int run = 0; run < 200; run++) {
            HomesQueue x = run % 2 == 0 ? told() : new HomesQueue();
            for (int call = 0; call < 600; call++) {
                Method m = face.get(random.nextInt(face.size()));
                Object[] arguments = new Object[m.getParameterCount()];
                for (int i = 0; i < arguments.length; i++) {
                    boolean flag = m.getParameterTypes()[i] == boolean.class;
                    int edge = random.nextInt(3) > 0 ? random.nextInt(9) : EDGES[random.nextInt(EDGES.length)];
                    arguments[i] = flag ? (Object) random.nextBoolean() : (Object) edge;
                }
                callOne(x, m, arguments);
            }
        }
    }

    private static void callOne(HomesQueue x, Method m, Object[] arguments) throws Exception {
        try {
            m.invoke(x, arguments);
        } catch (InvocationTargetException e) {
            boolean due = m.getName().equals("out") && e.getCause() instanceof NoSuchElementException;
            check(due, m.getName() + " threw " + e.getCause());
        }
    }
}
