import java.util.ArrayList;
import java.util.List;
import java.util.TreeMap;

/** All promises together: long runs of mixed calls, with a sorted map beside the object. */
public final class AgainstTreeMapTest {
    private static final int RUNS = 3000;
    private static final int CALLS = 512;

    private long seed;
    private final HashedNames x = new HashedNames();
    private final List<TreeMap<String, Integer>> directories = new ArrayList<>();
    private final int span;
    private String hand = "\0".repeat(20);
    private String told = "";

    private AgainstTreeMapTest(int run) {
        seed = run * 7919L + 1;
        // Few directories fill up, many are told apart.
        span = run % 3 == 0 ? 1 : run % 3 == 1 ? 2 : 8;
        for (int d = 0; d < 8; d++) {
            directories.add(new TreeMap<>());
        }
    }

    public static void main(String[] args) {
        for (int run = 0; run < RUNS; run++) {
            AgainstTreeMapTest test = new AgainstTreeMapTest(run);
            Check.test("run " + run, test::oneRun);
        }
        Check.end();
    }

    private void oneRun() {
        for (int call = 0; call < CALLS; call++) {
            oneCall();
        }
    }

    private void oneCall() {
        int kind = below(16);
        int d = oneIn(25) ? wild() : below(span);
        int n = oneIn(25) ? wild() : 1 + below(oneIn(4) ? 20 : 4);
        int id = oneIn(25) ? wild() : 1 + below(65535);
        String call = " with " + d + ", " + n + ", " + id;
        if (kind < 5) {
            sayAnother();
        } else if (kind < 10) {
            Check.due("add" + call, Check.outcome(() -> x.add(d, n, id)), dueAdd(d, n, id));
        } else if (kind == 10) {
            Check.due("find" + call, Check.outcome(() -> x.find(d, n)), dueFind(d, n));
        } else if (kind == 11) {
            Check.due("remove" + call, Check.outcome(() -> x.remove(d, n)), dueRemove(d, n));
        } else if (kind == 12) {
            Check.due("change" + call, Check.outcome(() -> x.change(d, n, id)), dueChange(d, n, id));
        } else if (kind == 13) {
            Check.due("size" + call, Check.outcome(() -> x.size(d)),
                    isDirectory(d) ? directories.get(d).size() : Check.ARGUMENT);
        } else if (kind == 14) {
            int k = oneIn(10) ? wild() : below(oneIn(2) ? 4 : 50);
            Check.due("nth of " + k + call, Check.outcome(() -> x.nth(d, k)), dueNth(d, k));
        } else {
            int i = oneIn(10) ? wild() : below(22);
            Check.due("byteAt(" + i + ")", Check.outcome(() -> x.byteAt(i)),
                    i < 0 ? Check.ARGUMENT : i < told.length() ? told.charAt(i) : -1);
        }
    }

    private void sayAnother() {
        char[] bytes = new char[20];
        for (int i = 0; i < 20; i++) {
            bytes[i] = oneIn(60) ? (oneIn(2) ? '\0' : '/')
                    : oneIn(4) ? (char) below(256)
                    : "a\u0080\u007f\u00ff".charAt(below(4));
        }
        hand = new String(bytes);
        Check.say(x, hand);
    }

    private int dueAdd(int d, int n, int id) {
        if (!isDirectory(d) || !isName(n) || !isId(id)) {
            return Check.ARGUMENT;
        }
        TreeMap<String, Integer> names = directories.get(d);
        if (names.size() == 48 || names.containsKey(hand.substring(0, n))) {
            return Check.STATE;
        }
        names.put(hand.substring(0, n), id);
        return names.size();
    }

    private int dueFind(int d, int n) {
        return isDirectory(d) && isName(n)
                ? directories.get(d).getOrDefault(hand.substring(0, n), -1) : Check.ARGUMENT;
    }

    private int dueRemove(int d, int n) {
        if (!isDirectory(d) || !isName(n)) {
            return Check.ARGUMENT;
        }
        Integer had = directories.get(d).remove(hand.substring(0, n));
        return had == null ? Check.STATE : had;
    }

    private int dueChange(int d, int n, int id) {
        if (!isDirectory(d) || !isName(n) || !isId(id)) {
            return Check.ARGUMENT;
        }
        Integer had = directories.get(d).replace(hand.substring(0, n), id);
        return had == null ? Check.STATE : had;
    }

    private int dueNth(int d, int k) {
        if (!isDirectory(d) || k < 0) {
            return Check.ARGUMENT;
        }
        List<String> names = new ArrayList<>(directories.get(d).keySet());
        told = k < names.size() ? names.get(k) : "";
        return k < names.size() ? told.length() : -1;
    }

    private static boolean isDirectory(int d) {
        return d >= 0 && d < 8;
    }

    private static boolean isId(int id) {
        return id >= 1 && id <= 65535;
    }

    private boolean isName(int n) {
        return n >= 1 && n <= 20
                && hand.substring(0, n).chars().allMatch(c -> c != 0 && c != 47);
    }

    private int wild() {
        int[] some = {-1, 0, 7, 8, 20, 21, 47, 48, 255, 256, 65535, 65536,
            Integer.MAX_VALUE, Integer.MIN_VALUE};
        return oneIn(8) ? (int) (next() >>> 32) : some[below(some.length)];
    }

    private boolean oneIn(int many) {
        return below(many) == 0;
    }

    private int below(int bound) {
        return (int) ((next() >>> 33) % bound);
    }

    /** A generator of its own, so that every run of the test makes the same calls. */
    private long next() {
        seed = seed * 6364136223846793005L + 1442695040888963407L;
        return seed;
    }
}
