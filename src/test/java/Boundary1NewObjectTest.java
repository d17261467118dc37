/** The boundaries of promise 1, "No names", and of the name at hand, "all 0 at first". */
public final class Boundary1NewObjectTest {
    public static void main(String[] args) {
        Check.test("each directory is empty", Boundary1NewObjectTest::eachDirectoryIsEmpty);
        Check.test("no directory has a first name", Boundary1NewObjectTest::noFirstName);
        Check.test("no name is found", Boundary1NewObjectTest::noNameIsFound);
        Check.test("no name can be removed", Boundary1NewObjectTest::noNameCanBeRemoved);
        Check.test("no name can be changed", Boundary1NewObjectTest::noNameCanBeChanged);
        Check.test("the first name is counted as one", Boundary1NewObjectTest::firstNameIsOne);
        Check.test("zeros at hand are no name", Boundary1NewObjectTest::zerosAreNoName);
        Check.test("no name has been told", Boundary1NewObjectTest::nothingIsTold);
        Check.test("a full object beside it", Boundary1NewObjectTest::fullObjectBesideIt);
        Check.end();
    }

    private static void eachDirectoryIsEmpty() {
        HashedNames x = new HashedNames();
        for (int d = 0; d < 8; d++) {
            Check.due("size(" + d + ")", x.size(d), 0);
        }
    }

    private static void noFirstName() {
        HashedNames x = new HashedNames();
        for (int d = 0; d < 8; d++) {
            Check.due("nth(" + d + ", 0)", x.nth(d, 0), -1);
            Check.due("byteAt(0)", x.byteAt(0), -1);
        }
    }

    private static void noNameIsFound() {
        HashedNames x = new HashedNames();
        Check.say(x, NameCall.TWENTY);
        for (int d = 0; d < 8; d++) {
            for (int n = 1; n <= 20; n++) {
                Check.due("find(" + d + ", " + n + ")", x.find(d, n), -1);
            }
        }
    }

    private static void noNameCanBeRemoved() {
        HashedNames x = new HashedNames();
        for (int d = 0; d < 8; d++) {
            Check.due("remove from " + d, Check.remove(x, d, "a"), Check.STATE);
        }
    }

    private static void noNameCanBeChanged() {
        HashedNames x = new HashedNames();
        for (int d = 0; d < 8; d++) {
            Check.due("change in " + d, Check.change(x, d, "a", 1), Check.STATE);
        }
    }

    private static void firstNameIsOne() {
        HashedNames x = new HashedNames();
        for (int d = 0; d < 8; d++) {
            Check.due("add to " + d, Check.add(x, d, "a", 1), 1);
        }
    }

    private static void zerosAreNoName() {
        HashedNames x = new HashedNames();
        for (int length = 1; length <= 20; length++) {
            int n = length;
            Check.refusesArgument("add of " + n + " zeros", () -> x.add(0, n, 1));
            Check.refusesArgument("find of " + n + " zeros", () -> x.find(0, n));
            Check.refusesArgument("remove of " + n + " zeros", () -> x.remove(0, n));
            Check.refusesArgument("change of " + n + " zeros", () -> x.change(0, n, 1));
        }
    }

    private static void nothingIsTold() {
        HashedNames x = new HashedNames();
        for (int i : new int[] {0, 1, 19, 20, 255, 256, Integer.MAX_VALUE}) {
            Check.due("byteAt(" + i + ")", Check.outcome(() -> x.byteAt(i)), -1);
        }
    }

    private static void fullObjectBesideIt() {
        HashedNames full = new HashedNames();
        Check.fill(full, 0);
        Check.due("nth of the full one", full.nth(0, 0), 2);
        HashedNames x = new HashedNames();
        Check.due("size(0)", x.size(0), 0);
        Check.due("nth(0, 0)", x.nth(0, 0), -1);
        Check.due("byteAt(0)", x.byteAt(0), -1);
        Check.refusesArgument("find(0, 1) of its own hand", () -> x.find(0, 1));
        Check.due("find", Check.find(x, 0, Check.fullName(0)), -1);
        Check.due("add", Check.add(x, 0, Check.fullName(0), 7), 1);
        Check.due("size of the full one", full.size(0), 48);
        Check.due("find in the full one", Check.find(full, 0, Check.fullName(0)), 101);
        Check.due("byteAt(1) of the full one", full.byteAt(1), 'A');
    }
}
