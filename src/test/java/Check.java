import java.nio.charset.StandardCharsets;

/** What the tests share: it compares answers with what is due, and counts the wrong ones. */
final class Check {
    interface Call {
        int answer();
    }

    static final int ARGUMENT = -1001;
    static final int STATE = -1002;

    private static int wrong = 0;
    private static int tests = 0;

    private Check() {
    }

    /** Runs one test under its name, so that a failure tells which case is broken. */
    static void test(String name, Runnable body) {
        int before = wrong;
        tests++;
        try {
            body.run();
        } catch (RuntimeException e) {
            unexpected(e);
        }
        if (wrong != before) {
            System.out.println("^ in the test: " + name);
        }
    }

    static void due(String call, int got, int want) {
        if (got != want) {
            wrong++;
            System.out.println(call + " answered " + shown(got) + ", due is " + shown(want));
        }
    }

    /** The answer of a call, or ARGUMENT or STATE for the two exceptions that the document has. */
    static int outcome(Call call) {
        try {
            return call.answer();
        } catch (IllegalArgumentException e) {
            // A subclass, such as NumberFormatException, is not what the document names.
            return e.getClass() == IllegalArgumentException.class ? ARGUMENT : unexpected(e);
        } catch (IllegalStateException e) {
            return e.getClass() == IllegalStateException.class ? STATE : unexpected(e);
        } catch (RuntimeException e) {
            return unexpected(e);
        }
    }

    static void refusesArgument(String call, Call made) {
        due(call, outcome(made), ARGUMENT);
    }

    static void refusesState(String call, Call made) {
        due(call, outcome(made), STATE);
    }

    static byte[] bytes(String name) {
        return name.getBytes(StandardCharsets.ISO_8859_1);
    }

    /** Tells a text of at most 20 characters, 0 to 255 each, with zeros behind it. */
    static int say(HashedNames x, String name) {
        int[] w = new int[5];
        byte[] b = bytes(name);
        for (int i = 0; i < b.length; i++) {
            w[i / 4] |= (b[i] & 255) << (24 - 8 * (i % 4));
        }
        x.say(w[0], w[1], w[2], w[3], w[4]);
        return b.length;
    }

    static int add(HashedNames x, int directory, String name, int id) {
        int n = say(x, name);
        return outcome(() -> x.add(directory, n, id));
    }

    static int find(HashedNames x, int directory, String name) {
        int n = say(x, name);
        return outcome(() -> x.find(directory, n));
    }

    static int remove(HashedNames x, int directory, String name) {
        int n = say(x, name);
        return outcome(() -> x.remove(directory, n));
    }

    static int change(HashedNames x, int directory, String name, int id) {
        int n = say(x, name);
        return outcome(() -> x.change(directory, n, id));
    }

    /** Name i of the 48 that fill() adds: they rise with i. */
    static String fullName(int i) {
        return "n" + (char) ('A' + i);
    }

    /** Fills an empty directory; name i gets the id 101 + i, and comes neither first nor last. */
    static void fill(HashedNames x, int directory) {
        for (int i = 0; i < 48; i++) {
            int which = (i * 5 + 17) % 48;
            due("add name " + which, add(x, directory, fullName(which), 101 + which), i + 1);
        }
    }

    /** That a directory has these names, told in this order, with ids rising from the first one. */
    static void dueNames(HashedNames x, int directory, int firstId, String... names) {
        due("size(" + directory + ")", outcome(() -> x.size(directory)), names.length);
        for (int k = 0; k < names.length; k++) {
            dueNth(x, directory, k, names[k]);
            due("find " + names[k], find(x, directory, names[k]), firstId + k);
        }
        due("nth behind the last", outcome(() -> x.nth(directory, names.length)), -1);
    }

    /** That nth() answers this name's length and byteAt() its bytes and nothing behind them. */
    static void dueNth(HashedNames x, int directory, int k, String name) {
        due("nth(" + directory + ", " + k + ")", outcome(() -> x.nth(directory, k)), name.length());
        dueTold(x, name);
    }

    static void dueTold(HashedNames x, String name) {
        byte[] b = bytes(name);
        for (int i = 0; i < b.length; i++) {
            int at = i;
            due("byteAt(" + i + ") of " + name, outcome(() -> x.byteAt(at)), b[i] & 255);
        }
        due("byteAt behind " + name, outcome(() -> x.byteAt(b.length)), -1);
    }

    static void end() {
        if (wrong != 0 || tests == 0) {
            System.out.println(wrong + " answers are not as due in " + tests + " tests");
            System.exit(1);
        }
        System.out.println(tests + (tests == 1 ? " test" : " tests"));
    }

    private static int unexpected(RuntimeException e) {
        wrong++;
        System.out.println("threw " + e);
        return -1003;
    }

    private static String shown(int answer) {
        return answer == ARGUMENT ? "throws.IllegalArgumentException"
                : answer == STATE ? "throws.IllegalStateException"
                : String.valueOf(answer);
    }
}
