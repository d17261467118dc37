/** The boundaries of promise 5: the arguments that find() refuses; "it is not there". */
public final class Boundary5RemoveTest {
    public static void main(String[] args) {
        NameCall.REMOVE.testBoundaries();
        Check.test("the first and the last id", Boundary5RemoveTest::firstAndLastId);
        Check.test("an empty directory", Boundary5RemoveTest::emptyDirectory);
        Check.test("it has gone already", Boundary5RemoveTest::goneAlready);
        Check.test("it is in the directories beside", Boundary5RemoveTest::besideOnly);
        Check.test("only a beginning of it is there", Boundary5RemoveTest::beginningOnly);
        Check.test("it is only a beginning of one there", Boundary5RemoveTest::longerOnly);
        Check.test("one byte is another, in any place", Boundary5RemoveTest::oneByteIsAnother);
        Check.test("a full directory does not have it", Boundary5RemoveTest::notInFull);
        Check.test("the only name goes", Boundary5RemoveTest::onlyName);
        Check.test("the first name goes", () -> dueOthers("a", 6, "b", "c"));
        Check.test("the last name goes", () -> dueOthers("c", 5, "a", "b"));
        Check.test("one of a full directory goes", Boundary5RemoveTest::oneOfFull);
        Check.test("all of a full directory go", Boundary5RemoveTest::allOfFull);
        Check.test("a wrong argument and it is not there", Boundary5RemoveTest::wrongAndNotThere);
        Check.test("a refused remove changes nothing", Boundary5RemoveTest::refusedChangesNothing);
        Check.end();
    }

    private static void firstAndLastId() {
        HashedNames x = new HashedNames();
        Check.add(x, 0, "a", 1);
        Check.add(x, 0, "b", 65535);
        Check.due("remove b", Check.remove(x, 0, "b"), 65535);
        Check.due("remove a", Check.remove(x, 0, "a"), 1);
    }

    private static void emptyDirectory() {
        HashedNames x = new HashedNames();
        for (int d = 0; d < 8; d++) {
            Check.due("remove from " + d, Check.remove(x, d, "a"), Check.STATE);
            Check.due("size(" + d + ")", x.size(d), 0);
        }
    }

    private static void goneAlready() {
        HashedNames x = new HashedNames();
        Check.add(x, 0, "a", 5);
        Check.add(x, 0, "b", 6);
        Check.due("remove", Check.remove(x, 0, "a"), 5);
        Check.due("remove again", Check.remove(x, 0, "a"), Check.STATE);
        Check.dueNames(x, 0, 6, "b");
    }

    private static void besideOnly() {
        HashedNames x = new HashedNames();
        Check.add(x, 2, "a", 5);
        Check.add(x, 4, "a", 6);
        Check.due("remove", Check.remove(x, 3, "a"), Check.STATE);
        Check.dueNames(x, 2, 5, "a");
        Check.dueNames(x, 4, 6, "a");
        Check.due("remove from 2", Check.remove(x, 2, "a"), 5);
        Check.dueNames(x, 4, 6, "a");
    }

    private static void beginningOnly() {
        for (int n = 1; n < 20; n++) {
            HashedNames x = new HashedNames();
            Check.say(x, NameCall.TWENTY);
            x.add(0, n, 5);
            int longer = n + 1;
            Check.refusesState("remove of " + longer + " bytes", () -> x.remove(0, longer));
            Check.due("remove of " + n + " bytes", x.remove(0, n), 5);
        }
    }

    private static void longerOnly() {
        for (int n = 2; n <= 20; n++) {
            HashedNames x = new HashedNames();
            Check.say(x, NameCall.TWENTY);
            x.add(0, n, 5);
            int shorter = n - 1;
            Check.refusesState("remove of " + shorter + " bytes", () -> x.remove(0, shorter));
            Check.due("remove of " + n + " bytes", x.remove(0, n), 5);
        }
    }

    private static void oneByteIsAnother() {
        HashedNames x = new HashedNames();
        Check.add(x, 0, NameCall.TWENTY, 5);
        for (int at = 0; at < 20; at++) {
            StringBuilder other = new StringBuilder(NameCall.TWENTY);
            other.setCharAt(at, (char) (NameCall.TWENTY.charAt(at) ^ 128));
            Check.due("remove, byte " + at, Check.remove(x, 0, other.toString()), Check.STATE);
        }
        Check.due("remove", Check.remove(x, 0, NameCall.TWENTY), 5);
    }

    private static void notInFull() {
        HashedNames x = new HashedNames();
        Check.fill(x, 0);
        for (String other : new String[] {"n", "n@", "nq", "nAA", "\u0001", "\u00ff"}) {
            Check.due("remove " + other, Check.remove(x, 0, other), Check.STATE);
        }
        Check.due("size", x.size(0), 48);
    }

    private static void onlyName() {
        for (int d : new int[] {0, 7}) {
            HashedNames x = new HashedNames();
            Check.add(x, d, "a", 5);
            Check.due("remove", Check.remove(x, d, "a"), 5);
            Check.dueNames(x, d, 0);
            Check.due("find", Check.find(x, d, "a"), -1);
            Check.due("add", Check.add(x, d, "b", 6), 1);
            Check.dueNames(x, d, 6, "b");
        }
    }

    private static void dueOthers(String gone, int firstId, String... others) {
        HashedNames x = new HashedNames();
        Check.add(x, 0, "b", 6);
        Check.add(x, 0, "a", 5);
        Check.add(x, 0, "c", 7);
        Check.due("remove", Check.remove(x, 0, gone), gone.charAt(0) - 'a' + 5);
        Check.dueNames(x, 0, firstId, others);
        Check.due("find", Check.find(x, 0, gone), -1);
    }

    private static void oneOfFull() {
        for (int gone = 0; gone < 48; gone++) {
            HashedNames x = new HashedNames();
            Check.fill(x, 6);
            Check.due("remove", Check.remove(x, 6, Check.fullName(gone)), 101 + gone);
            Check.due("size", x.size(6), 47);
            for (int k = 0; k < 47; k++) {
                x.nth(6, k);
                Check.due("byteAt(1) of name " + k, x.byteAt(1), 'A' + (k < gone ? k : k + 1));
            }
            Check.due("nth(6, 47)", x.nth(6, 47), -1);
            for (int i = 0; i < 48; i++) {
                Check.due("find " + i, Check.find(x, 6, Check.fullName(i)),
                        i == gone ? -1 : 101 + i);
            }
        }
    }

    private static void allOfFull() {
        HashedNames x = new HashedNames();
        Check.fill(x, 6);
        for (int i = 0; i < 48; i++) {
            int which = (i * 7 + 5) % 48;
            Check.due("remove " + which, Check.remove(x, 6, Check.fullName(which)), 101 + which);
            Check.due("size", x.size(6), 47 - i);
        }
        Check.due("remove once more", Check.remove(x, 6, Check.fullName(0)), Check.STATE);
        Check.dueNames(x, 6, 0);
        Check.fill(x, 6);
        Check.due("add a 49th", Check.add(x, 6, "more", 1), Check.STATE);
    }

    private static void wrongAndNotThere() {
        HashedNames x = new HashedNames();
        Check.due("no name", Check.remove(x, 0, ""), Check.ARGUMENT);
        Check.due("a byte 0", Check.remove(x, 0, "\0"), Check.ARGUMENT);
        Check.due("a byte 47", Check.remove(x, 0, "/"), Check.ARGUMENT);
        Check.due("no such directory", Check.remove(x, 8, "a"), Check.ARGUMENT);
        Check.due("no such directory", Check.remove(x, -1, "a"), Check.ARGUMENT);
    }

    private static void refusedChangesNothing() {
        HashedNames x = new HashedNames();
        Check.add(x, 0, "a", 5);
        Check.add(x, 0, "c", 6);
        Check.due("nth", x.nth(0, 1), 1);
        Check.due("not there", Check.remove(x, 0, "b"), Check.STATE);
        Check.due("no name", Check.remove(x, 0, "a/"), Check.ARGUMENT);
        Check.due("no directory", Check.remove(x, 8, "a"), Check.ARGUMENT);
        Check.dueTold(x, "c");
        Check.dueNames(x, 0, 5, "a", "c");
    }
}
