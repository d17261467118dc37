/** Promise 6: change() gives a name another id and answers the one that it had. */
public final class Promise6ChangeTest {
    public static void main(String[] args) {
        theIdChanges();
        badArgumentsAreRefused();
        argumentsAreLookedAtFirst();
        Check.end();
    }

    private static void theIdChanges() {
        HashedNames x = new HashedNames();
        Check.add(x, 0, "name", 7);
        Check.add(x, 0, "namer", 8);
        Check.add(x, 1, "name", 9);
        Check.due("change", Check.change(x, 0, "name", 65535), 7);
        Check.due("change back to 1", Check.change(x, 0, "name", 1), 65535);
        Check.due("change to the id that it has", Check.change(x, 0, "name", 1), 1);
        Check.due("find", Check.find(x, 0, "name"), 1);
        Check.due("find the longer one", Check.find(x, 0, "namer"), 8);
        Check.due("find elsewhere", Check.find(x, 1, "name"), 9);
        Check.due("size", x.size(0), 2);
        Check.dueNth(x, 0, 0, "name");
        Check.due("change of what is not there", Check.change(x, 0, "nam", 5), Check.STATE);
        Check.due("change where there is none", Check.change(x, 2, "name", 5), Check.STATE);
        Check.due("size after refusals", x.size(2), 0);
        Check.due("remove", Check.remove(x, 0, "name"), 1);
        Check.due("change of what has gone", Check.change(x, 0, "name", 5), Check.STATE);
    }

    private static void badArgumentsAreRefused() {
        HashedNames x = new HashedNames();
        Check.add(x, 0, "a", 5);
        Check.say(x, "abcdefghijklmnopqrst");
        for (int bad : new int[] {-1, 8, Integer.MIN_VALUE, Integer.MAX_VALUE}) {
            Check.refusesArgument("change in directory " + bad, () -> x.change(bad, 1, 1));
        }
        for (int bad : new int[] {0, -1, 21, Integer.MIN_VALUE, Integer.MAX_VALUE}) {
            Check.refusesArgument("change of length " + bad, () -> x.change(0, bad, 1));
        }
        for (int bad : new int[] {0, -1, 65536, Integer.MIN_VALUE, Integer.MAX_VALUE}) {
            Check.refusesArgument("change to id " + bad, () -> x.change(0, 1, bad));
        }
        Check.due("change a/", Check.change(x, 0, "a/", 1), Check.ARGUMENT);
        Check.due("change with a byte 0", Check.change(x, 0, "a\u0000", 1), Check.ARGUMENT);
        Check.due("find", Check.find(x, 0, "a"), 5);
    }

    private static void argumentsAreLookedAtFirst() {
        HashedNames x = new HashedNames();
        Check.due("bad id, not there", Check.change(x, 0, "none", 0), Check.ARGUMENT);
        Check.due("bad id, not there", Check.change(x, 0, "none", 65536), Check.ARGUMENT);
    }
}
