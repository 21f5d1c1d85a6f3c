import java.lang.reflect.Array;
import java.lang.reflect.Field;
import java.lang.reflect.Modifier;
import java.util.ArrayDeque;
import java.util.Arrays;
import java.util.Deque;
import java.util.IdentityHashMap;
import java.util.Map;
import java.util.NoSuchElementException;
import java.util.Random;

/**
 * LANGUAGE.md, of any calls with any numbers: nothing reaches the caller but what the document names (rules 6, 7), the
 * same calls give the same answers (rule 13), and all that a run makes has room (rule 12). The seeds are fixed.
 */
public final class AnyCallsTest {
    private static final int RUNS = 600;
    private static final int CALLS = 512;
    private static final int KINDS = 26;
    private static final int TELLING = 15;
    private static final int[] NUMBERS = {
        Integer.MIN_VALUE, Integer.MIN_VALUE + 1, -65536, -1000, -2, -1, 0, 0, 0, 1, 1, 2, 2, 3, 3, 4, 5, 6, 7, 8, 9,
        10, 15, 16, 17, 20, 39, 40, 41, 99, 100, 101, 399, 400, 401, 500, 501, 998, 999, 1000, 4999, 5000, 5001, 9999,
        10000, 65535, 65536, 1000000, 1000001, 0x726f7420, 0x31303b20, 0x6c6f7373, 0x20627579, 0x65723b20,
        Integer.MAX_VALUE - 1, Integer.MAX_VALUE,
    };
    private static final long THROWN = Long.MIN_VALUE;
    private static final long OBJECTS_MOST = 600000;
    private static final long ELEMENTS_MOST = 7300000;

    private static final Due due = new Due();

    private final Random random;
    private final FruitHalls x = new FruitHalls();

    private AnyCallsTest(int seed) {
        random = new Random(seed);
    }

    public static void main(String[] args) {
        for (int seed = 0; seed < RUNS; seed++) {
            due.yes("run " + seed + " answers alike twice", Arrays.equals(answers(seed), answers(seed)));
        }
        room();
        due.finish("AnyCallsTest");
    }

    private static long[] answers(int seed) {
        AnyCallsTest test = new AnyCallsTest(seed);
        long[] answers = new long[CALLS];
        for (int i = 0; i < CALLS; i++) {
            int call = test.random.nextInt(KINDS);
            answers[i] = test.answer(seed, call);
        }
        return answers;
    }

    private long answer(int seed, int call) {
        try {
            return call < TELLING ? change(call) : tell(call);
        } catch (NoSuchElementException e) {
            due.yes("run " + seed + ": call " + call + " may throw", call >= TELLING && call < TELLING + 3);
            return THROWN;
        } catch (RuntimeException e) {
            due.yes("run " + seed + ": call " + call + " throws " + e, false);
            return THROWN;
        }
    }

    private long change(int call) {
        switch (call) {
            case 0:
                return x.feed(any(), any(), any(), any(), any());
            case 1:
                return x.end(any()) ? 1 : 0;
            case 2:
                return x.rules();
            case 3:
                return x.lot(some(8), some(6), some(4), some(500), some(4));
            case 4:
                return x.money(some(10), some(1000001)) ? 1 : 0;
            case 5:
                return x.want(some(10), some(2), some(2), some(5001), some(random.nextBoolean() ? 99 : 10000)) ? 1 : 0;
            case 6:
                return x.auction(some(4));
            case 7:
                return x.reject(some(x.count(2) + 1)) ? 1 : 0;
            case 8:
                return x.next();
            case 9:
                return x.cars(some(41));
            case 10:
                return x.lot(random.nextInt(8), random.nextInt(6), 0, 1 + random.nextInt(500), 0);
            case 11:
                return x.reject(x.count(2) - 1 - random.nextInt(3)) ? 1 : 0;
            case 12:
                return x.auction(random.nextInt(2));
            case 13:
                return x.end(16) ? x.cars(some(41)) : 0;
            default:
                return Due.rules(x, random.nextBoolean() ? "rot 10;loss buyer;" : "reserve 0 1;part 1 0;loss pool;");
        }
    }

    /** The first three of these may throw. */
    private long tell(int call) {
        switch (call) {
            case 15:
                return x.about(some(x.count(1) + 1), some(7));
            case 16:
                return x.sale(some(x.count(2) + 1), some(7));
            case 17:
                return x.worth(some(6), some(x.count(0) + 1), some(2));
            case 18:
                return x.left(some(10));
            case 19:
                return x.wanted(some(10), some(4), some(4));
            case 20:
                return x.pool(some(x.count(0) + 1));
            case 21:
                return x.pay(some(8), some(x.count(0) + 1));
            case 22:
                return x.wire(some(4), some(4), some(x.count(0) + 1), some(4));
            case 23:
                return x.sent(some(4));
            case 24:
                return x.count(some(5));
            default:
                return x.fault();
        }
    }

    private int any() {
        return random.nextInt(8) == 0 ? random.nextInt() : NUMBERS[random.nextInt(NUMBERS.length)];
    }

    /** Mostly a number that is as told, and now and then any. */
    private int some(int bound) {
        return random.nextInt(12) == 0 ? any() : random.nextInt(bound);
    }

    /** A run that does nothing but make objects makes the most: a call makes nothing else (LanguageTest). */
    private static void room() {
        Map<Object, Boolean> seen = new IdentityHashMap<>();
        Deque<Object> open = new ArrayDeque<>();
        open.push(new FruitHalls());
        long elements = 0;
        while (!open.isEmpty()) {
            Object each = open.pop();
            if (seen.put(each, true) == null) {
                elements += each.getClass().isArray() ? Array.getLength(each) : fieldsOf(each, open);
            }
        }
        due.yes(CALLS + " times " + seen.size() + " objects have room", (long) CALLS * seen.size() <= OBJECTS_MOST);
        due.yes(CALLS + " times " + elements + " elements have room", CALLS * elements <= ELEMENTS_MOST);
    }

    private static int fieldsOf(Object object, Deque<Object> open) {
        int fields = 0;
        for (Field field : object.getClass().getDeclaredFields()) {
            if (!Modifier.isStatic(field.getModifiers())) {
                fields++;
                if (!field.getType().isPrimitive()) {
                    open.push(valueOf(field, object));
                }
            }
        }
        return fields;
    }

    private static Object valueOf(Field field, Object object) {
        try {
            field.setAccessible(true);
            return field.get(object);
        } catch (IllegalAccessException e) {
            throw new AssertionError(e);
        }
    }
}
