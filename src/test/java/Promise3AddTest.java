/** Promise 3: add() gives a name an id and answers how many names the directory has. */
public final class Promise3AddTest {
    public static void main(String[] args) {
        namesAreCountedByDirectory();
        aNameIsAddedOnce();
        fortyEightAreTheMost();
        badArgumentsAreRefused();
        zerosAndSlashesAreNoName();
        argumentsAreLookedAtFirst();
        refusedCallsChangeNothing();
        Check.end();
    }

    private static void namesAreCountedByDirectory() {
        HashedNames x = new HashedNames();
        Check.due("add a to 0", Check.add(x, 0, "a", 1), 1);
        Check.due("add b to 0", Check.add(x, 0, "b", 1), 2);
        Check.due("add a to 7", Check.add(x, 7, "a", 65535), 1);
        Check.due("add ab to 0", Check.add(x, 0, "ab", 65535), 3);
        Check.due("add of 20 bytes", Check.add(x, 0, "abcdefghijklmnopqrst", 3), 4);
        Check.due("find a in 7", Check.find(x, 7, "a"), 65535);
        Check.due("find a in 0", Check.find(x, 0, "a"), 1);
    }

    private static void aNameIsAddedOnce() {
        HashedNames x = new HashedNames();
        Check.due("add", Check.add(x, 1, "twice", 1), 1);
        Check.due("add again", Check.add(x, 1, "twice", 2), Check.STATE);
        Check.due("add with the same id", Check.add(x, 1, "twice", 1), Check.STATE);
        Check.due("its id", Check.find(x, 1, "twice"), 1);
        Check.due("remove", Check.remove(x, 1, "twice"), 1);
        Check.due("add after remove", Check.add(x, 1, "twice", 2), 1);
        Check.due("its new id", Check.find(x, 1, "twice"), 2);
    }

    private static void fortyEightAreTheMost() {
        HashedNames x = new HashedNames();
        for (int i = 0; i < 48; i++) {
            Check.due("add " + i, Check.add(x, 4, "name" + i, i + 1), i + 1);
        }
        Check.due("a 49th name", Check.add(x, 4, "more", 1), Check.STATE);
        Check.due("one of the 48", Check.add(x, 4, "name7", 1), Check.STATE);
        Check.due("a name elsewhere", Check.add(x, 5, "more", 1), 1);
        Check.due("a name below", Check.add(x, 3, "more", 1), 1);
        Check.due("remove", Check.remove(x, 4, "name20"), 21);
        Check.due("a 48th name", Check.add(x, 4, "more", 99), 48);
        Check.due("a 49th name", Check.add(x, 4, "name20", 1), Check.STATE);
        for (int i = 0; i < 48; i++) {
            Check.due("find " + i, Check.find(x, 4, "name" + i), i == 20 ? -1 : i + 1);
        }
        Check.due("find the last one", Check.find(x, 4, "more"), 99);
    }

    private static void badArgumentsAreRefused() {
        HashedNames x = new HashedNames();
        Check.say(x, "abcdefghijklmnopqrst");
        for (int bad : new int[] {-1, 8, Integer.MIN_VALUE, Integer.MAX_VALUE}) {
            Check.refusesArgument("add to directory " + bad, () -> x.add(bad, 1, 1));
        }
        for (int bad : new int[] {0, -1, 21, 24, Integer.MIN_VALUE, Integer.MAX_VALUE}) {
            Check.refusesArgument("add of length " + bad, () -> x.add(0, bad, 1));
        }
        for (int bad : new int[] {0, -1, 65536, Integer.MIN_VALUE, Integer.MAX_VALUE}) {
            Check.refusesArgument("add of id " + bad, () -> x.add(0, 1, bad));
        }
        Check.due("size", x.size(0), 0);
    }

    private static void zerosAndSlashesAreNoName() {
        for (int bad : new int[] {0, 47}) {
            for (int at = 0; at < 20; at++) {
                HashedNames x = new HashedNames();
                StringBuilder name = new StringBuilder("abcdefghijklmnopqrst");
                name.setCharAt(at, (char) bad);
                Check.say(x, name.toString());
                for (int n = 1; n <= 20; n++) {
                    int length = n;
                    Check.due("add of " + n + " bytes with " + bad + " at " + at,
                            Check.outcome(() -> x.add(0, length, 1)), n > at ? Check.ARGUMENT : n);
                }
            }
        }
        HashedNames x = new HashedNames();
        Check.due("neighbours of the two", Check.add(x, 0, "\u0001\u002e\u0030\u00ff\u0080", 1), 1);
    }

    private static void argumentsAreLookedAtFirst() {
        HashedNames x = new HashedNames();
        for (int i = 0; i < 48; i++) {
            Check.add(x, 2, "name" + i, 1);
        }
        Check.due("bad id, name there", Check.add(x, 2, "name1", 0), Check.ARGUMENT);
        Check.due("bad id, directory full", Check.add(x, 2, "other", 65536), Check.ARGUMENT);
        Check.due("no name, directory full", Check.add(x, 2, "a/b", 1), Check.ARGUMENT);
    }

    private static void refusedCallsChangeNothing() {
        HashedNames x = new HashedNames();
        Check.add(x, 6, "kept", 11);
        Check.add(x, 6, "kept", 12);
        Check.add(x, 6, "no/name", 12);
        Check.add(x, 6, "badid", 0);
        Check.due("size", x.size(6), 1);
        Check.dueNth(x, 6, 0, "kept");
        Check.due("find", Check.find(x, 6, "kept"), 11);
        Check.due("find badid", Check.find(x, 6, "badid"), -1);
    }
}
