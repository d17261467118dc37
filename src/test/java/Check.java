import java.nio.charset.StandardCharsets;

/** What the tests share: it compares answers with what is due, and counts the wrong ones. */
final class Check {
    interface Call {
        int answer();
    }

    static final int ARGUMENT = -1001;
    static final int STATE = -1002;

    private static int wrong = 0;

    private Check() {
    }

    static void due(String call, int got, int want) {
        if (got != want) {
            wrong++;
            System.out.println(call + " answered " + shown(got) + ", due is " + shown(want));
        }
    }

    /** The answer of a call, or ARGUMENT or STATE for the two exceptions that the document has. */
    static int outcome(Call call) {
        try {
            return call.answer();
        } catch (IllegalArgumentException e) {
            // A subclass, such as NumberFormatException, is not what the document names.
            return e.getClass() == IllegalArgumentException.class ? ARGUMENT : unexpected(e);
        } catch (IllegalStateException e) {
            return e.getClass() == IllegalStateException.class ? STATE : unexpected(e);
        } catch (RuntimeException e) {
            return unexpected(e);
        }
    }

    static void refusesArgument(String call, Call made) {
        due(call, outcome(made), ARGUMENT);
    }

    static void refusesState(String call, Call made) {
        due(call, outcome(made), STATE);
    }

    static byte[] bytes(String name) {
        return name.getBytes(StandardCharsets.ISO_8859_1);
    }

    /** Tells a text of at most 20 characters, 0 to 255 each, with zeros behind it. */
    static int say(HashedNames x, String name) {
        int[] w = new int[5];
        byte[] b = bytes(name);
        for (int i = 0; i < b.length; i++) {
            w[i / 4] |= (b[i] & 255) << (24 - 8 * (i % 4));
        }
        x.say(w[0], w[1], w[2], w[3], w[4]);
        return b.length;
    }

    static int add(HashedNames x, int directory, String name, int id) {
        int n = say(x, name);
        return outcome(() -> x.add(directory, n, id));
    }

    static int find(HashedNames x, int directory, String name) {
        int n = say(x, name);
        return outcome(() -> x.find(directory, n));
    }

    static int remove(HashedNames x, int directory, String name) {
        int n = say(x, name);
        return outcome(() -> x.remove(directory, n));
    }

    static int change(HashedNames x, int directory, String name, int id) {
        int n = say(x, name);
        return outcome(() -> x.change(directory, n, id));
    }

    /** That nth() answers this name's length and byteAt() its bytes and nothing behind them. */
    static void dueNth(HashedNames x, int directory, int k, String name) {
        due("nth(" + directory + ", " + k + ")", outcome(() -> x.nth(directory, k)), name.length());
        dueTold(x, name);
    }

    static void dueTold(HashedNames x, String name) {
        byte[] b = bytes(name);
        for (int i = 0; i < b.length; i++) {
            int at = i;
            due("byteAt(" + i + ") of " + name, outcome(() -> x.byteAt(at)), b[i] & 255);
        }
        due("byteAt behind " + name, outcome(() -> x.byteAt(b.length)), -1);
    }

    static void end() {
        if (wrong != 0) {
            System.out.println(wrong + " answers are not as due");
            System.exit(1);
        }
    }

    private static int unexpected(RuntimeException e) {
        wrong++;
        System.out.println("threw " + e);
        return -1003;
    }

    private static String shown(int answer) {
        return answer == ARGUMENT ? "throws.IllegalArgumentException"
                : answer == STATE ? "throws.IllegalStateException"
                : String.valueOf(answer);
    }
}
