/**
 * The boundaries of promise 6: the arguments that find() refuses, "or no such id"; "it is not
 * there".
 */
public final class Boundary6ChangeTest {
    public static void main(String[] args) {
        NameCall.CHANGE.testBoundaries();
        Check.test("id 1 is the first", () -> dueId(1));
        Check.test("id 65,535 is the last", () -> dueId(65535));
        Check.test("no id below 1", () -> dueNoId(0, -1, -65535, Integer.MIN_VALUE));
        Check.test("no id above 65,535", () -> dueNoId(65536, 65537, 131071, 1 << 30,
                Integer.MAX_VALUE));
        Check.test("the id that it has", Boundary6ChangeTest::idThatItHas);
        Check.test("an id that another name has", Boundary6ChangeTest::idOfAnother);
        Check.test("an empty directory", Boundary6ChangeTest::emptyDirectory);
        Check.test("it has gone", Boundary6ChangeTest::itHasGone);
        Check.test("it is in the directories beside", Boundary6ChangeTest::besideOnly);
        Check.test("only a beginning of it is there", Boundary6ChangeTest::beginningOnly);
        Check.test("it is only a beginning of one there", Boundary6ChangeTest::longerOnly);
        Check.test("one byte is another, in any place", Boundary6ChangeTest::oneByteIsAnother);
        Check.test("a full directory has it", Boundary6ChangeTest::inFull);
        Check.test("a full directory does not have it", Boundary6ChangeTest::notInFull);
        Check.test("a wrong argument and it is not there", Boundary6ChangeTest::wrongAndNotThere);
        Check.test("a refused change changes nothing", Boundary6ChangeTest::refusedChangesNothing);
        Check.end();
    }

    private static void dueId(int id) {
        HashedNames x = new HashedNames();
        Check.add(x, 0, "a", 5);
        Check.due("change to id " + id, Check.change(x, 0, "a", id), 5);
        Check.dueNames(x, 0, id, "a");
        Check.due("change back", Check.change(x, 0, "a", 5), id);
        Check.dueNames(x, 0, 5, "a");
    }

    private static void dueNoId(int... bad) {
        HashedNames x = new HashedNames();
        Check.add(x, 0, "a", 5);
        for (int id : bad) {
            Check.due("change to id " + id, Check.change(x, 0, "a", id), Check.ARGUMENT);
            Check.due("find", x.find(0, 1), 5);
        }
    }

    private static void idThatItHas() {
        HashedNames x = new HashedNames();
        Check.add(x, 0, "a", 5);
        Check.due("change", Check.change(x, 0, "a", 5), 5);
        Check.dueNames(x, 0, 5, "a");
    }

    private static void idOfAnother() {
        HashedNames x = new HashedNames();
        Check.add(x, 0, "a", 5);
        Check.add(x, 0, "b", 6);
        Check.due("change", Check.change(x, 0, "a", 6), 5);
        Check.due("find a", Check.find(x, 0, "a"), 6);
        Check.due("find b", Check.find(x, 0, "b"), 6);
    }

    private static void emptyDirectory() {
        HashedNames x = new HashedNames();
        for (int d = 0; d < 8; d++) {
            Check.due("change in " + d, Check.change(x, d, "a", 5), Check.STATE);
            Check.dueNames(x, d, 0);
            Check.due("find in " + d, Check.find(x, d, "a"), -1);
        }
    }

    private static void itHasGone() {
        HashedNames x = new HashedNames();
        Check.add(x, 0, "a", 5);
        Check.add(x, 0, "b", 6);
        Check.remove(x, 0, "a");
        Check.due("change", Check.change(x, 0, "a", 7), Check.STATE);
        Check.dueNames(x, 0, 6, "b");
    }

    private static void besideOnly() {
        HashedNames x = new HashedNames();
        Check.add(x, 2, "a", 5);
        Check.add(x, 4, "a", 6);
        Check.due("change", Check.change(x, 3, "a", 7), Check.STATE);
        Check.dueNames(x, 2, 5, "a");
        Check.dueNames(x, 4, 6, "a");
        Check.due("change in 2", Check.change(x, 2, "a", 7), 5);
        Check.dueNames(x, 4, 6, "a");
    }

    private static void beginningOnly() {
        for (int n = 1; n < 20; n++) {
            HashedNames x = new HashedNames();
            Check.say(x, NameCall.TWENTY);
            x.add(0, n, 5);
            int longer = n + 1;
            Check.refusesState("change of " + longer + " bytes", () -> x.change(0, longer, 6));
            Check.due("change of " + n + " bytes", x.change(0, n, 7), 5);
        }
    }

    private static void longerOnly() {
        for (int n = 2; n <= 20; n++) {
            HashedNames x = new HashedNames();
            Check.say(x, NameCall.TWENTY);
            x.add(0, n, 5);
            int shorter = n - 1;
            Check.refusesState("change of " + shorter + " bytes", () -> x.change(0, shorter, 6));
            Check.due("change of " + n + " bytes", x.change(0, n, 7), 5);
        }
    }

    private static void oneByteIsAnother() {
        HashedNames x = new HashedNames();
        Check.add(x, 0, NameCall.TWENTY, 5);
        for (int at = 0; at < 20; at++) {
            StringBuilder other = new StringBuilder(NameCall.TWENTY);
            other.setCharAt(at, (char) (NameCall.TWENTY.charAt(at) ^ 128));
            Check.due("change, byte " + at, Check.change(x, 0, other.toString(), 6), Check.STATE);
        }
        Check.dueNames(x, 0, 5, NameCall.TWENTY);
    }

    private static void inFull() {
        HashedNames x = new HashedNames();
        Check.fill(x, 0);
        for (int i = 0; i < 48; i++) {
            Check.due("change " + i, Check.change(x, 0, Check.fullName(i), 201 + i), 101 + i);
        }
        for (int i = 0; i < 48; i++) {
            Check.due("find " + i, Check.find(x, 0, Check.fullName(i)), 201 + i);
            x.nth(0, i);
            Check.due("byteAt(1) of name " + i, x.byteAt(1), 'A' + i);
        }
        Check.due("size", x.size(0), 48);
    }

    private static void notInFull() {
        HashedNames x = new HashedNames();
        Check.fill(x, 0);
        for (String other : new String[] {"n", "n@", "nq", "nAA", "\u0001", "\u00ff"}) {
            Check.due("change " + other, Check.change(x, 0, other, 1), Check.STATE);
        }
        for (int i = 0; i < 48; i++) {
            Check.due("find " + i, Check.find(x, 0, Check.fullName(i)), 101 + i);
        }
    }

    private static void wrongAndNotThere() {
        HashedNames x = new HashedNames();
        Check.due("no such id", Check.change(x, 0, "a", 0), Check.ARGUMENT);
        Check.due("no such id", Check.change(x, 0, "a", 65536), Check.ARGUMENT);
        Check.due("no name", Check.change(x, 0, "", 1), Check.ARGUMENT);
        Check.due("a byte 47", Check.change(x, 0, "/", 1), Check.ARGUMENT);
        Check.due("no such directory", Check.change(x, 8, "a", 1), Check.ARGUMENT);
        Check.due("no such directory", Check.change(x, -1, "a", 1), Check.ARGUMENT);
    }

    private static void refusedChangesNothing() {
        HashedNames x = new HashedNames();
        Check.add(x, 0, "a", 5);
        Check.add(x, 0, "c", 6);
        Check.due("nth", x.nth(0, 1), 1);
        Check.due("not there", Check.change(x, 0, "b", 9), Check.STATE);
        Check.due("no id", Check.change(x, 0, "a", 0), Check.ARGUMENT);
        Check.due("no name", Check.change(x, 0, "a/", 9), Check.ARGUMENT);
        Check.due("no directory", Check.change(x, 8, "a", 9), Check.ARGUMENT);
        Check.dueTold(x, "c");
        Check.dueNames(x, 0, 5, "a", "c");
    }
}
