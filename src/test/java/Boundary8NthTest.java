/**
 * The boundaries of promise 8: "by bytes without a sign rising, a beginning of another one first";
 * "-1 (and byteAt() tells nothing) when there are not so many"; "no such directory, or k is below
 * 0".
 */
public final class Boundary8NthTest {
    public static void main(String[] args) {
        Check.test("directory 0 is the first", () -> dueDirectory(0));
        Check.test("directory 7 is the last", () -> dueDirectory(7));
        Check.test("no directory below 0", () -> dueNoDirectory(-1, -2, -8, Integer.MIN_VALUE));
        Check.test("no directory above 7", () -> dueNoDirectory(8, 9, 15, 16, 255, 256, 1 << 28,
                1 << 29, Integer.MAX_VALUE));
        Check.test("k below 0", Boundary8NthTest::belowZero);
        Check.test("k below 0 in an empty directory", Boundary8NthTest::belowZeroInEmpty);
        Check.test("both arguments wrong", Boundary8NthTest::bothWrong);
        Check.test("an empty directory", Boundary8NthTest::emptyDirectory);
        Check.test("a directory that has been emptied", Boundary8NthTest::emptiedDirectory);
        Check.test("the first, the last and one behind", Boundary8NthTest::firstLastAndBehind);
        Check.test("k far behind the last", Boundary8NthTest::farBehind);
        Check.test("a full directory", Boundary8NthTest::fullDirectory);
        Check.test("names of directories beside", Boundary8NthTest::directoriesBeside);
        Check.test("byteAt() tells nothing after -1", Boundary8NthTest::nothingToldAfterNone);
        Check.test("bytes 127 and 128, in any place", () -> dueRising(127, 128));
        Check.test("bytes 1 and 255, in any place", () -> dueRising(1, 255));
        Check.test("bytes 1 and 2, in any place", () -> dueRising(1, 2));
        Check.test("bytes 46 and 48, in any place", () -> dueRising(46, 48));
        Check.test("bytes 254 and 255, in any place", () -> dueRising(254, 255));
        Check.test("an earlier byte counts more", Boundary8NthTest::earlierCountsMore);
        Check.test("a beginning before a next byte 1", () -> dueBeginningFirst(1));
        Check.test("a beginning before a next byte 127", () -> dueBeginningFirst(127));
        Check.test("a beginning before a next byte 128", () -> dueBeginningFirst(128));
        Check.test("a beginning before a next byte 255", () -> dueBeginningFirst(255));
        Check.test("a shorter name that is no beginning", Boundary8NthTest::shorterIsNoBeginning);
        Check.test("all twenty beginnings of a name", Boundary8NthTest::allBeginnings);
        Check.test("the lengths 1 and 20", Boundary8NthTest::shortestAndLongest);
        Check.test("ids do not order", Boundary8NthTest::idsDoNotOrder);
        Check.test("a refused nth changes nothing", Boundary8NthTest::refusedChangesNothing);
        Check.end();
    }

    private static void dueDirectory(int directory) {
        HashedNames x = new HashedNames();
        Check.add(x, directory, "only", 1);
        Check.dueNth(x, directory, 0, "only");
        Check.due("nth behind it", x.nth(directory, 1), -1);
    }

    private static void dueNoDirectory(int... bad) {
        HashedNames x = new HashedNames();
        Check.add(x, 0, "a", 1);
        Check.add(x, 7, "a", 1);
        for (int directory : bad) {
            Check.refusesArgument("nth(" + directory + ", 0)", () -> x.nth(directory, 0));
            Check.refusesArgument("nth(" + directory + ", 48)", () -> x.nth(directory, 48));
        }
    }

    private static void belowZero() {
        HashedNames x = new HashedNames();
        Check.add(x, 0, "a", 1);
        for (int k : new int[] {-1, -2, -48, Integer.MIN_VALUE}) {
            Check.refusesArgument("nth(0, " + k + ")", () -> x.nth(0, k));
        }
        Check.dueNth(x, 0, 0, "a");
    }

    private static void belowZeroInEmpty() {
        HashedNames x = new HashedNames();
        for (int d = 0; d < 8; d++) {
            int directory = d;
            Check.refusesArgument("nth(" + d + ", -1)", () -> x.nth(directory, -1));
        }
    }

    private static void bothWrong() {
        HashedNames x = new HashedNames();
        Check.refusesArgument("nth(-1, -1)", () -> x.nth(-1, -1));
        Check.refusesArgument("nth(8, -1)", () -> x.nth(8, -1));
    }

    private static void emptyDirectory() {
        HashedNames x = new HashedNames();
        for (int d = 0; d < 8; d++) {
            Check.due("nth(" + d + ", 0)", x.nth(d, 0), -1);
            Check.due("nth(" + d + ", 1)", x.nth(d, 1), -1);
            Check.dueTold(x, "");
        }
    }

    private static void emptiedDirectory() {
        HashedNames x = new HashedNames();
        Check.add(x, 0, "a", 1);
        Check.remove(x, 0, "a");
        Check.due("nth(0, 0)", x.nth(0, 0), -1);
        Check.dueTold(x, "");
    }

    private static void firstLastAndBehind() {
        HashedNames x = new HashedNames();
        String[] rising = {"a", "bb", "ccc", "dddd"};
        for (int count = 1; count <= 4; count++) {
            Check.add(x, 0, rising[count - 1], 1);
            Check.dueNth(x, 0, 0, "a");
            Check.dueNth(x, 0, count - 1, rising[count - 1]);
            Check.due("nth behind " + count, x.nth(0, count), -1);
        }
    }

    private static void farBehind() {
        HashedNames x = new HashedNames();
        Check.add(x, 0, "a", 1);
        for (int k : new int[] {2, 47, 48, 49, 255, 256, 65536, 1 << 30, Integer.MAX_VALUE}) {
            Check.due("nth(0, " + k + ")", Check.outcome(() -> x.nth(0, k)), -1);
        }
    }

    private static void fullDirectory() {
        for (int d : new int[] {0, 7}) {
            HashedNames x = new HashedNames();
            Check.fill(x, d);
            for (int k = 0; k < 48; k++) {
                Check.dueNth(x, d, k, Check.fullName(k));
            }
            Check.due("nth(48)", x.nth(d, 48), -1);
            Check.dueTold(x, "");
            Check.due("nth(49)", x.nth(d, 49), -1);
        }
    }

    private static void directoriesBeside() {
        HashedNames x = new HashedNames();
        Check.fill(x, 2);
        Check.add(x, 3, "a", 1);
        Check.fill(x, 4);
        Check.dueNth(x, 3, 0, "a");
        Check.due("nth(3, 1)", x.nth(3, 1), -1);
        Check.due("nth(1, 0)", x.nth(1, 0), -1);
        Check.due("nth(5, 0)", x.nth(5, 0), -1);
    }

    private static void nothingToldAfterNone() {
        HashedNames x = new HashedNames();
        Check.add(x, 0, NameCall.TWENTY, 1);
        Check.dueNth(x, 0, 0, NameCall.TWENTY);
        Check.due("nth(0, 1)", x.nth(0, 1), -1);
        for (int i = 0; i <= 20; i++) {
            Check.due("byteAt(" + i + ")", x.byteAt(i), -1);
        }
        Check.dueNth(x, 0, 0, NameCall.TWENTY);
        Check.due("nth(1, 0)", x.nth(1, 0), -1);
        Check.due("byteAt(0)", x.byteAt(0), -1);
    }

    /** Of names that differ in one byte, in any of twenty places, the lower one is first. */
    private static void dueRising(int lower, int higher) {
        for (int at = 0; at < 20; at++) {
            String before = "m".repeat(at);
            for (String behind : new String[] {"", "m".repeat(19 - at)}) {
                dueOrder(before + (char) lower + behind, before + (char) higher + behind);
            }
        }
    }

    private static void earlierCountsMore() {
        for (int at = 0; at < 19; at++) {
            String before = "m".repeat(at);
            dueOrder(before + "\u007f\u00ff", before + "\u0080\u0001");
            dueOrder(before + "a\u00ff", before + "b\u0001");
        }
    }

    private static void dueBeginningFirst(int next) {
        for (int n = 1; n < 20; n++) {
            String beginning = "m".repeat(n);
            dueOrder(beginning, beginning + (char) next);
            dueOrder(beginning, beginning + ("" + (char) next).repeat(20 - n));
        }
    }

    private static void shorterIsNoBeginning() {
        dueOrder("aaaaaaaaaaaaaaaaaaaa", "b");
        dueOrder("\u007f\u00ff\u00ff\u00ff\u00ff", "\u0080");
        dueOrder("mmmma", "mmmn");
        dueOrder("mmmmmmmmz", "mmmmmmmn");
    }

    /** That names are told in this order, whichever is added first. */
    private static void dueOrder(String first, String second) {
        HashedNames x = new HashedNames();
        Check.add(x, 0, first, 5);
        Check.add(x, 0, second, 6);
        Check.add(x, 1, second, 6);
        Check.add(x, 1, first, 5);
        Check.dueNames(x, 0, 5, first, second);
        Check.dueNames(x, 1, 5, first, second);
    }

    private static void allBeginnings() {
        HashedNames x = new HashedNames();
        Check.say(x, NameCall.TWENTY);
        for (int i = 0; i < 20; i++) {
            x.add(0, (i * 7 + 3) % 20 + 1, 1);
        }
        for (int k = 0; k < 20; k++) {
            Check.dueNth(x, 0, k, NameCall.TWENTY.substring(0, k + 1));
        }
        Check.due("nth(0, 20)", x.nth(0, 20), -1);
    }

    private static void shortestAndLongest() {
        HashedNames x = new HashedNames();
        Check.add(x, 0, "\u0001", 1);
        Check.add(x, 0, "\u00ff".repeat(20), 1);
        Check.dueNth(x, 0, 0, "\u0001");
        Check.dueNth(x, 0, 1, "\u00ff".repeat(20));
    }

    private static void idsDoNotOrder() {
        HashedNames x = new HashedNames();
        Check.add(x, 0, "b", 1);
        Check.add(x, 0, "a", 65535);
        Check.dueNth(x, 0, 0, "a");
        Check.change(x, 0, "a", 1);
        Check.change(x, 0, "b", 65535);
        Check.dueNth(x, 0, 0, "a");
        Check.dueNth(x, 0, 1, "b");
    }

    /** The document does not say that a refused nth() tells nothing, so the one before it stays. */
    private static void refusedChangesNothing() {
        HashedNames x = new HashedNames();
        Check.add(x, 0, "a", 5);
        Check.add(x, 0, "b", 6);
        Check.dueNth(x, 0, 1, "b");
        Check.refusesArgument("nth(0, -1)", () -> x.nth(0, -1));
        Check.dueTold(x, "b");
        Check.refusesArgument("nth(8, 0)", () -> x.nth(8, 0));
        Check.dueTold(x, "b");
        Check.dueNames(x, 0, 5, "a", "b");
    }
}
