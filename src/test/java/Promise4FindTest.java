/** Promise 4: find() answers a name's id, or -1 when it is not there. */
public final class Promise4FindTest {
    public static void main(String[] args) {
        wholeNamesAreFound();
        everyByteCounts();
        badArgumentsAreRefused();
        Check.end();
    }

    private static void wholeNamesAreFound() {
        HashedNames x = new HashedNames();
        Check.add(x, 0, "alpha", 7);
        Check.add(x, 0, "al", 65535);
        Check.due("find alpha", Check.find(x, 0, "alpha"), 7);
        Check.due("find al", Check.find(x, 0, "al"), 65535);
        Check.due("find alp", Check.find(x, 0, "alp"), -1);
        Check.due("find a", Check.find(x, 0, "a"), -1);
        Check.due("find alphab", Check.find(x, 0, "alphab"), -1);
        Check.due("find Alpha", Check.find(x, 0, "Alpha"), -1);
        Check.due("find elsewhere", Check.find(x, 1, "alpha"), -1);
        Check.due("size after finds", x.size(0), 2);
    }

    private static void everyByteCounts() {
        String name = "abcdefghijklmnopqrst";
        HashedNames x = new HashedNames();
        Check.add(x, 7, name, 1);
        for (int i = 0; i < 20; i++) {
            StringBuilder other = new StringBuilder(name);
            other.setCharAt(i, (char) (name.charAt(i) ^ 128));
            Check.due("find with another byte " + i, Check.find(x, 7, other.toString()), -1);
        }
        // What stands behind the first n bytes is no part of the name.
        Check.add(x, 7, "abcde", 2);
        Check.say(x, "abcdeXYZ//");
        Check.due("find(7, 5)", x.find(7, 5), 2);
    }

    private static void badArgumentsAreRefused() {
        HashedNames x = new HashedNames();
        Check.say(x, "abcdefghijklmnopqrst");
        for (int bad : new int[] {-1, 8, Integer.MIN_VALUE, Integer.MAX_VALUE}) {
            Check.refusesArgument("find in directory " + bad, () -> x.find(bad, 1));
        }
        for (int bad : new int[] {0, -1, 21, Integer.MIN_VALUE, Integer.MAX_VALUE}) {
            Check.refusesArgument("find of length " + bad, () -> x.find(0, bad));
        }
        Check.due("find a/b", Check.find(x, 0, "a/b"), Check.ARGUMENT);
        Check.due("find /", Check.find(x, 0, "/"), Check.ARGUMENT);
        Check.due("find with a byte 0", Check.find(x, 0, "a\u0000b"), Check.ARGUMENT);
    }
}
