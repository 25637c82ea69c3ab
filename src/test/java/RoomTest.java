import java.lang.management.ManagementFactory;
import java.util.Random;

/** All calls of one run live in one room: an object makes little, and none of its calls anything; and none may throw, whatever it is asked. */
public final class RoomTest {
    private static final String[] TEXTS = {
        "obeys 1 when((((((((1<2)))))))and not not not not not not not not 1=1or 2>1;tires 9999*9999/7-day;",
        "on 0 order 0 march 3 daily;on 1 order 1 stop;", "on 1 sea 9;on 2 fire 3 99;", "place 0 road 1;place 1 road 2;"};

    private RoomTest() {
    }

    public static void main(String[] args) {
        com.sun.management.ThreadMXBean room = (com.sun.management.ThreadMXBean) ManagementFactory.getThreadMXBean();
        long id = Thread.currentThread().getId();
        long calls = 0;
        long made = 0;
        for (int seed = 0; seed < 400; seed++) {
            Random random = new Random(seed);
            int[] v = new int[6 * 340];
            for (int i = 0; i < v.length; i++) {
                v[i] = some(random);
            }
            long first = room.getThreadAllocatedBytes(id);
            LateOrders x = new LateOrders();
            long before = room.getThreadAllocatedBytes(id);
            for (int i = 0; i < 340; i++) {
                call(x, random.nextInt(36), v, 6 * i);
            }
            if (seed > 20) {
                calls += room.getThreadAllocatedBytes(id) - before;
                made = Math.max(made, before - first);
            }
        }
        System.out.println("RoomTest: at most " + made + " bytes made by one object, " + calls + " by all calls on all of them");
        // The machine itself makes some hundred bytes now and then; if one of the calls made one object, it would be 50000.
        if (made > 60000 || calls > 5000) {
            System.exit(1);
        }
    }

    private static int some(Random random) {
        switch (random.nextInt(8)) {
            case 0: return random.nextInt();
            case 1: return random.nextBoolean() ? Integer.MIN_VALUE : Integer.MAX_VALUE;
            case 2: return random.nextInt(1000);
            case 3: return random.nextInt(100);
            case 4: return -1 - random.nextInt(3);
            case 5: return random.nextInt(3);
            default: return random.nextInt(12);
        }
    }

    private static void call(LateOrders x, int kind, int[] v, int i) {
        int a = v[i];
        int b = v[i + 1];
        int c = v[i + 2];
        int d = v[i + 3];
        switch (kind) {
            case 0: x.state(a); break;
            case 1: x.subject(a, b); break;
            case 2: x.set(a, b, c); break;
            case 3: x.order(a, b, c, d > 5); break;
            case 4: x.builds(a); break;
            case 5: x.days(a); break;
            case 6: x.feed(a, b, c, d, v[i + 4]); break;
            case 7: x.end(a); break;
            case 8: told(x, a & 3, b, c); break;
            case 9: x.fault(a); break;
            case 10: x.place(a, b); break;
            case 11: x.of(a, b); break;
            case 12: x.book(a, b); break;
            case 13: x.goes(a, b); break;
            case 14: x.arrives(a, b); break;
            case 15: x.bath(a, b, c, d); break;
            case 16: x.follows(a, b, c, d); break;
            case 17: x.caught(a, b); break;
            case 18: x.said(a, b, c, d); break;
            case 19: x.prophet(a); break;
            case 20: x.wrong(a, b, c); break;
            default: callMore(x, kind, a, b, c); break;
        }
    }

    private static void callMore(LateOrders x, int kind, int a, int b, int c) {
        switch (kind) {
            case 21: x.spell(a); break;
            case 22: x.together(a); break;
            case 23: x.ranks(a, b); break;
            case 24: x.comer(a, b); break;
            case 25: x.queue(a, b); break;
            case 26: x.letter(a, b); break;
            case 27: x.cross(a); break;
            case 28: x.bell(a, b); break;
            case 29: x.sits(a); break;
            case 30: x.lights(a, b, c); break;
            case 31: x.game(a); break;
            case 32: x.undo(); break;
            case 33: x.image(a > 5); break;
            case 34: x.text(a); break;
            default: x.look(a); break;
        }
    }

    private static void told(LateOrders x, int k, int a, int b) {
        String text = TEXTS[k];
        for (int from = 0; from < text.length(); from += 20) {
            x.feed(Check.four(text, from), Check.four(text, from + 4), Check.four(text, from + 8), Check.four(text, from + 12),
                (a & 7) == 0 ? b : Check.four(text, from + 16));
        }
        if ((a & 3) != 0) {
            x.end(text.length());
        }
        x.text(k);
    }
}
