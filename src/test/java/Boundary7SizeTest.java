/** The boundaries of promise 7: "there is none such", and the counts from none to 48. */
public final class Boundary7SizeTest {
    public static void main(String[] args) {
        Check.test("directory 0 is the first", () -> dueCounted(0));
        Check.test("directory 7 is the last", () -> dueCounted(7));
        Check.test("no directory below 0", () -> dueNoDirectory(-1, -2, -8, Integer.MIN_VALUE));
        Check.test("no directory above 7", () -> dueNoDirectory(8, 9, 15, 16, 255, 256, 1 << 28,
                1 << 29, Integer.MAX_VALUE));
        Check.test("an empty directory has 0", Boundary7SizeTest::emptyHasNone);
        Check.test("a full directory has 48", Boundary7SizeTest::fullHasFortyEight);
        Check.test("each count from 0 to 48 and back", Boundary7SizeTest::eachCount);
        Check.test("a refused add is not counted", Boundary7SizeTest::refusedAdd);
        Check.test("a refused remove is not counted", Boundary7SizeTest::refusedRemove);
        Check.test("calls that add and remove nothing", Boundary7SizeTest::otherCalls);
        Check.test("directories are counted apart", Boundary7SizeTest::countedApart);
        Check.test("a refused size changes nothing", Boundary7SizeTest::refusedChangesNothing);
        Check.end();
    }

    private static void dueCounted(int directory) {
        HashedNames x = new HashedNames();
        Check.add(x, directory, "a", 1);
        Check.add(x, directory, "b", 1);
        Check.due("size(" + directory + ")", Check.outcome(() -> x.size(directory)), 2);
    }

    private static void dueNoDirectory(int... bad) {
        HashedNames x = new HashedNames();
        Check.add(x, 0, "a", 1);
        Check.add(x, 7, "a", 1);
        for (int directory : bad) {
            Check.refusesArgument("size(" + directory + ")", () -> x.size(directory));
        }
    }

    private static void emptyHasNone() {
        HashedNames x = new HashedNames();
        for (int d = 0; d < 8; d++) {
            Check.due("size(" + d + ")", x.size(d), 0);
        }
    }

    private static void fullHasFortyEight() {
        for (int d = 0; d < 8; d++) {
            HashedNames x = new HashedNames();
            Check.fill(x, d);
            Check.due("size(" + d + ")", x.size(d), 48);
        }
    }

    private static void eachCount() {
        HashedNames x = new HashedNames();
        for (int i = 0; i < 48; i++) {
            Check.due("size", x.size(5), i);
            Check.add(x, 5, Check.fullName(i), 1);
        }
        for (int i = 48; i > 0; i--) {
            Check.due("size", x.size(5), i);
            Check.remove(x, 5, Check.fullName(i - 1));
        }
        Check.due("size", x.size(5), 0);
    }

    private static void refusedAdd() {
        HashedNames x = new HashedNames();
        Check.add(x, 0, "a", 1);
        Check.due("add of what is there", Check.add(x, 0, "a", 1), Check.STATE);
        Check.due("size", x.size(0), 1);
        Check.due("add of no id", Check.add(x, 0, "b", 0), Check.ARGUMENT);
        Check.due("size", x.size(0), 1);
        Check.due("add of no name", Check.add(x, 0, "/", 1), Check.ARGUMENT);
        Check.due("size", x.size(0), 1);
        Check.fill(x, 1);
        Check.due("add of a 49th", Check.add(x, 1, "more", 1), Check.STATE);
        Check.due("size", x.size(1), 48);
    }

    private static void refusedRemove() {
        HashedNames x = new HashedNames();
        Check.due("remove from nothing", Check.remove(x, 0, "a"), Check.STATE);
        Check.due("size", x.size(0), 0);
        Check.add(x, 0, "a", 1);
        Check.due("remove of what is not there", Check.remove(x, 0, "b"), Check.STATE);
        Check.due("size", x.size(0), 1);
        Check.due("remove of no name", Check.remove(x, 0, "/"), Check.ARGUMENT);
        Check.due("size", x.size(0), 1);
    }

    private static void otherCalls() {
        HashedNames x = new HashedNames();
        Check.add(x, 0, "a", 1);
        Check.change(x, 0, "a", 2);
        Check.due("size after change", x.size(0), 1);
        Check.change(x, 0, "b", 2);
        Check.due("size after a refused change", x.size(0), 1);
        Check.find(x, 0, "a");
        Check.find(x, 0, "b");
        Check.due("size after find", x.size(0), 1);
        x.nth(0, 0);
        x.nth(0, 1);
        x.byteAt(0);
        Check.due("size after nth", x.size(0), 1);
    }

    private static void countedApart() {
        HashedNames x = new HashedNames();
        for (int d = 0; d < 8; d++) {
            for (int i = 0; i <= d; i++) {
                Check.add(x, d, Check.fullName(i), 1);
            }
        }
        for (int d = 0; d < 8; d++) {
            Check.due("size(" + d + ")", x.size(d), d + 1);
        }
        Check.remove(x, 0, Check.fullName(0));
        Check.remove(x, 7, Check.fullName(0));
        for (int d = 0; d < 8; d++) {
            Check.due("size(" + d + ")", x.size(d), d == 0 || d == 7 ? d : d + 1);
        }
    }

    private static void refusedChangesNothing() {
        HashedNames x = new HashedNames();
        Check.add(x, 0, "a", 5);
        Check.due("nth", x.nth(0, 0), 1);
        Check.refusesArgument("size(8)", () -> x.size(8));
        Check.dueTold(x, "a");
        Check.dueNames(x, 0, 5, "a");
    }
}
