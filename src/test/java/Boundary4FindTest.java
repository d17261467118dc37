/** The boundaries of promise 4: "-1 when it is not there"; "no such directory, or no name". */
public final class Boundary4FindTest {
    public static void main(String[] args) {
        NameCall.FIND.testBoundaries();
        Check.test("the first and the last id", Boundary4FindTest::firstAndLastId);
        Check.test("an empty directory", Boundary4FindTest::emptyDirectory);
        Check.test("a full directory", Boundary4FindTest::fullDirectory);
        Check.test("it is in the directories beside", Boundary4FindTest::besideOnly);
        Check.test("only a beginning of it is there", Boundary4FindTest::beginningOnly);
        Check.test("it is only a beginning of one there", Boundary4FindTest::longerOnly);
        Check.test("one byte is another, in any place", Boundary4FindTest::oneByteIsAnother);
        Check.test("it has gone", Boundary4FindTest::itHasGone);
        Check.test("what is behind it at hand is no part", Boundary4FindTest::behindIsNoPart);
        Check.test("a wrong argument and an empty directory", Boundary4FindTest::wrongAndEmpty);
        Check.test("find changes nothing", Boundary4FindTest::findChangesNothing);
        Check.end();
    }

    private static void firstAndLastId() {
        HashedNames x = new HashedNames();
        Check.add(x, 0, "a", 1);
        Check.add(x, 0, "b", 65535);
        Check.due("find a", Check.find(x, 0, "a"), 1);
        Check.due("find b", Check.find(x, 0, "b"), 65535);
    }

    private static void emptyDirectory() {
        HashedNames x = new HashedNames();
        for (int d = 0; d < 8; d++) {
            Check.due("find in " + d, Check.find(x, d, "a"), -1);
            Check.due("find in " + d, Check.find(x, d, NameCall.TWENTY), -1);
        }
    }

    private static void fullDirectory() {
        HashedNames x = new HashedNames();
        Check.fill(x, 7);
        for (int i = 0; i < 48; i++) {
            Check.due("find " + i, Check.find(x, 7, Check.fullName(i)), 101 + i);
        }
        for (String other : new String[] {"n", "n@", "nq", "nAA", "\u0001", "\u00ff"}) {
            Check.due("find " + other, Check.find(x, 7, other), -1);
        }
    }

    private static void besideOnly() {
        for (int without = 0; without < 8; without++) {
            HashedNames x = new HashedNames();
            for (int d = 0; d < 8; d++) {
                if (d != without) {
                    Check.add(x, d, "a", 10 + d);
                }
            }
            for (int d = 0; d < 8; d++) {
                Check.due("find in " + d, Check.find(x, d, "a"), d == without ? -1 : 10 + d);
            }
        }
    }

    private static void beginningOnly() {
        for (int n = 1; n < 20; n++) {
            HashedNames x = new HashedNames();
            Check.say(x, NameCall.TWENTY);
            x.add(0, n, 5);
            Check.due("find of " + n + " bytes", x.find(0, n), 5);
            Check.due("find of a byte more", x.find(0, n + 1), -1);
        }
    }

    private static void longerOnly() {
        for (int n = 2; n <= 20; n++) {
            HashedNames x = new HashedNames();
            Check.say(x, NameCall.TWENTY);
            x.add(0, n, 5);
            Check.due("find of " + n + " bytes", x.find(0, n), 5);
            Check.due("find of a byte less", x.find(0, n - 1), -1);
        }
    }

    private static void oneByteIsAnother() {
        HashedNames x = new HashedNames();
        Check.add(x, 0, NameCall.TWENTY, 5);
        for (int at = 0; at < 20; at++) {
            for (int bit : new int[] {1, 128}) {
                StringBuilder other = new StringBuilder(NameCall.TWENTY);
                other.setCharAt(at, (char) (NameCall.TWENTY.charAt(at) ^ bit));
                Check.due("find, byte " + at, Check.find(x, 0, other.toString()), -1);
            }
        }
        Check.due("find", Check.find(x, 0, NameCall.TWENTY), 5);
    }

    private static void itHasGone() {
        HashedNames x = new HashedNames();
        Check.add(x, 0, "a", 5);
        Check.add(x, 0, "b", 6);
        Check.remove(x, 0, "a");
        Check.due("find a", Check.find(x, 0, "a"), -1);
        Check.due("find b", Check.find(x, 0, "b"), 6);
        Check.remove(x, 0, "b");
        Check.due("find b", Check.find(x, 0, "b"), -1);
    }

    private static void behindIsNoPart() {
        for (int n = 1; n < 20; n++) {
            HashedNames x = new HashedNames();
            String name = NameCall.TWENTY.substring(0, n);
            Check.add(x, 0, name, 5);
            for (String behind : new String[] {"\u0001", "/", "\u00ff"}) {
                Check.say(x, name + behind);
                Check.due("find of " + n + " bytes", x.find(0, n), 5);
            }
        }
    }

    private static void wrongAndEmpty() {
        HashedNames x = new HashedNames();
        Check.due("no name", Check.find(x, 0, ""), Check.ARGUMENT);
        Check.due("a byte 0", Check.find(x, 0, "\0"), Check.ARGUMENT);
        Check.due("a byte 47", Check.find(x, 0, "/"), Check.ARGUMENT);
        Check.due("no such directory", Check.find(x, 8, "a"), Check.ARGUMENT);
        Check.due("no such directory", Check.find(x, -1, "a"), Check.ARGUMENT);
    }

    private static void findChangesNothing() {
        HashedNames x = new HashedNames();
        Check.add(x, 0, "a", 5);
        Check.add(x, 0, "c", 6);
        Check.due("nth", x.nth(0, 0), 1);
        Check.due("find of what is not there", Check.find(x, 0, "b"), -1);
        Check.due("find of no name", Check.find(x, 0, "/"), Check.ARGUMENT);
        Check.due("find", Check.find(x, 0, "c"), 6);
        Check.dueTold(x, "a");
        Check.dueNames(x, 0, 5, "a", "c");
    }
}
