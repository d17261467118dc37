import java.lang.management.ManagementFactory;
import java.lang.reflect.Array;
import java.lang.reflect.Field;
import java.lang.reflect.Modifier;

/** "All memory is rows made once": an object has nothing but rows of numbers, and no call makes one. */
public final class RowsTest {
    /** Hundreds of objects of this size fit into the 7.3 million elements that a run may have. */
    private static final int MOST_ELEMENTS = 20_000;
    /** Few, because the machine leaves out some objects of code that it has seen very often. */
    private static final int ROUNDS = 10;

    private static long sum = 0;

    private RowsTest() {
    }

    public static void main(String[] args) {
        Check.test("the fields are numbers and rows of numbers", RowsTest::theFields);
        Check.test("the rows of a new object are few and short", RowsTest::theElements);
        Check.test("two objects share no row", RowsTest::noneShared);
        Check.test("calls make no object", RowsTest::callsMakeNothing);
        Check.end();
    }

    private static void theFields() {
        for (Field field : HashedNames.class.getDeclaredFields()) {
            Class<?> type = field.getType();
            Class<?> element = type.isArray() ? type.getComponentType() : type;
            Check.due(field + " holds numbers", element.isPrimitive() ? 1 : 0, 1);
            boolean mayChange = !Modifier.isFinal(field.getModifiers());
            boolean mustStay = type.isArray() || Modifier.isStatic(field.getModifiers());
            Check.due(field + " stays as it was made", mayChange && mustStay ? 1 : 0, 0);
        }
    }

    private static void theElements() {
        HashedNames x = new HashedNames();
        int elements = 0;
        for (Field field : HashedNames.class.getDeclaredFields()) {
            elements += field.getType().isArray() ? Array.getLength(row(field, x)) : 1;
        }
        Check.due(elements + " elements are too many", elements > MOST_ELEMENTS ? 1 : 0, 0);
    }

    private static void noneShared() {
        HashedNames x = new HashedNames();
        HashedNames y = new HashedNames();
        for (Field field : HashedNames.class.getDeclaredFields()) {
            if (field.getType().isArray() && !Modifier.isStatic(field.getModifiers())) {
                Check.due(field + " is shared", row(field, x) == row(field, y) ? 1 : 0, 0);
            }
        }
    }

    /** The machine may make objects of its own in a round, so the round with the fewest counts. */
    private static void callsMakeNothing() {
        var threads = (com.sun.management.ThreadMXBean) ManagementFactory.getThreadMXBean();
        if (!threads.isThreadAllocatedMemorySupported()) {
            System.out.println("not measured: this machine does not count what a thread makes");
            return;
        }
        long thread = Thread.currentThread().getId();
        long least = Long.MAX_VALUE;
        for (int round = 0; round < ROUNDS; round++) {
            HashedNames x = new HashedNames();
            long before = threads.getThreadAllocatedBytes(thread);
            useAll(x);
            least = Math.min(least, threads.getThreadAllocatedBytes(thread) - before);
        }
        Check.due("bytes made by calls", (int) least, 0);
        // The answers are used, so that no call can be left out.
        Check.due("the calls answered", sum > 0 ? 1 : 0, 1);
    }

    /** 337 calls, each of them one that throws nothing. */
    private static void useAll(HashedNames x) {
        for (int i = 0; i < 48; i++) {
            x.say(0x6E414141 + i, 0x61616161, 0x62626262, 0x63636363, 0x64646464);
            sum += x.add(i % 2, 4 + i % 17, i + 1);
            sum += x.find(i % 2, 4 + i % 17);
            sum += x.change(i % 2, 4 + i % 17, 65535 - i);
            sum += x.nth(i % 2, i / 2);
            sum += x.byteAt(i % 20);
            sum += x.size(i % 2);
        }
        sum += x.remove(1, 4 + 47 % 17);
    }

    private static Object row(Field field, HashedNames x) {
        try {
            field.setAccessible(true);
            return field.get(x);
        } catch (IllegalAccessException e) {
            throw new IllegalStateException(e);
        }
    }
}
