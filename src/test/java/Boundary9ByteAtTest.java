/** The boundaries of promise 9: "(0 .. 255)"; "the latest nth()"; "-1 behind it"; "i is below 0". */
public final class Boundary9ByteAtTest {
    public static void main(String[] args) {
        Check.test("i below 0 before any nth()", Boundary9ByteAtTest::belowZeroAtFirst);
        Check.test("i below 0 after an nth()", Boundary9ByteAtTest::belowZeroAfterNth);
        Check.test("i below 0 after an nth() of -1", Boundary9ByteAtTest::belowZeroAfterNone);
        Check.test("before any nth()", Boundary9ByteAtTest::beforeAnyNth);
        Check.test("a name of 1 byte", () -> dueEnds(1));
        Check.test("a name of 20 bytes", () -> dueEnds(20));
        Check.test("names that end with or beside an int", () -> dueEnds(3, 4, 5, 7, 8, 9, 15, 16,
                17, 19));
        Check.test("far behind the name", Boundary9ByteAtTest::farBehind);
        Check.test("each byte from 1 to 255", Boundary9ByteAtTest::eachByte);
        Check.test("bytes 128 and 255 in any place", Boundary9ByteAtTest::highBytesAnywhere);
        Check.test("a shorter name after a longer one", Boundary9ByteAtTest::shorterAfterLonger);
        Check.test("after an nth() of -1", Boundary9ByteAtTest::afterNone);
        Check.test("an nth() after one of -1", Boundary9ByteAtTest::nthAfterNone);
        Check.test("the latest nth() of several directories", Boundary9ByteAtTest::latestNth);
        Check.test("each other call since then", Boundary9ByteAtTest::otherCalls);
        Check.test("its name goes", Boundary9ByteAtTest::itsNameGoes);
        Check.test("another name gets its place", Boundary9ByteAtTest::anotherGetsItsPlace);
        Check.test("the name at hand is another", Boundary9ByteAtTest::handIsAnother);
        Check.test("a refused byteAt changes nothing", Boundary9ByteAtTest::refusedChangesNothing);
        Check.end();
    }

    private static void dueBelowZero(HashedNames x) {
        for (int i : new int[] {-1, -2, -4, -20, -256, Integer.MIN_VALUE}) {
            Check.refusesArgument("byteAt(" + i + ")", () -> x.byteAt(i));
        }
    }

    private static void belowZeroAtFirst() {
        dueBelowZero(new HashedNames());
    }

    private static void belowZeroAfterNth() {
        HashedNames x = new HashedNames();
        Check.add(x, 0, NameCall.TWENTY, 1);
        Check.due("nth", x.nth(0, 0), 20);
        dueBelowZero(x);
    }

    private static void belowZeroAfterNone() {
        HashedNames x = new HashedNames();
        Check.due("nth", x.nth(0, 0), -1);
        dueBelowZero(x);
    }

    private static void beforeAnyNth() {
        HashedNames x = new HashedNames();
        Check.due("byteAt(0)", x.byteAt(0), -1);
        Check.add(x, 0, "a", 1);
        Check.due("byteAt(0) after add", x.byteAt(0), -1);
        Check.find(x, 0, "a");
        Check.due("byteAt(0) after find", x.byteAt(0), -1);
    }

    /** The first byte, the last one, and the first behind it, of names of these lengths. */
    private static void dueEnds(int... lengths) {
        for (int n : lengths) {
            HashedNames x = new HashedNames();
            Check.say(x, NameCall.TWENTY);
            x.add(0, n, 1);
            Check.due("nth", x.nth(0, 0), n);
            Check.due("byteAt(0)", x.byteAt(0), 'a');
            Check.due("byteAt(" + (n - 1) + ")", x.byteAt(n - 1), 'a' + n - 1);
            Check.due("byteAt(" + n + ")", x.byteAt(n), -1);
            Check.due("byteAt(" + (n + 1) + ")", x.byteAt(n + 1), -1);
        }
    }

    /** "(0 .. 255)" is what a byte may be; of i the document refuses only what is below 0. */
    private static void farBehind() {
        HashedNames x = new HashedNames();
        Check.add(x, 0, NameCall.TWENTY, 1);
        Check.due("nth", x.nth(0, 0), 20);
        for (int i : new int[] {20, 21, 24, 32, 254, 255, 256, 1 << 16, 1 << 30, 1 << 30 | 1,
            Integer.MAX_VALUE}) {
            Check.due("byteAt(" + i + ")", Check.outcome(() -> x.byteAt(i)), -1);
        }
    }

    private static void eachByte() {
        for (int b = 1; b <= 255; b++) {
            if (b != 47) {
                HashedNames x = new HashedNames();
                Check.add(x, 0, "" + (char) b, 1);
                Check.due("nth", x.nth(0, 0), 1);
                Check.due("byteAt(0)", x.byteAt(0), b);
                Check.due("byteAt(1)", x.byteAt(1), -1);
            }
        }
    }

    private static void highBytesAnywhere() {
        for (int at = 0; at < 20; at++) {
            for (int b : new int[] {128, 255}) {
                StringBuilder name = new StringBuilder(NameCall.TWENTY);
                name.setCharAt(at, (char) b);
                HashedNames x = new HashedNames();
                Check.add(x, 0, name.toString(), 1);
                Check.dueNth(x, 0, 0, name.toString());
            }
        }
    }

    private static void shorterAfterLonger() {
        HashedNames x = new HashedNames();
        Check.say(x, NameCall.TWENTY);
        for (int n = 1; n <= 20; n++) {
            x.add(0, n, 1);
        }
        for (int n = 20; n >= 1; n--) {
            Check.due("nth(0, " + (n - 1) + ")", x.nth(0, n - 1), n);
            Check.due("byteAt(" + (n - 1) + ")", x.byteAt(n - 1), 'a' + n - 1);
            Check.due("byteAt(" + n + ")", x.byteAt(n), -1);
            Check.due("byteAt(19)", x.byteAt(19), n == 20 ? 't' : -1);
        }
    }

    private static void afterNone() {
        HashedNames x = new HashedNames();
        Check.add(x, 0, "ab", 1);
        Check.dueNth(x, 0, 0, "ab");
        Check.due("nth(0, 1)", x.nth(0, 1), -1);
        Check.due("byteAt(0)", x.byteAt(0), -1);
        Check.due("byteAt(1)", x.byteAt(1), -1);
        Check.due("byteAt(255)", x.byteAt(255), -1);
    }

    private static void nthAfterNone() {
        HashedNames x = new HashedNames();
        Check.due("nth(0, 0)", x.nth(0, 0), -1);
        Check.add(x, 0, "ab", 1);
        Check.due("byteAt(0) before another nth()", x.byteAt(0), -1);
        Check.dueNth(x, 0, 0, "ab");
    }

    private static void latestNth() {
        HashedNames x = new HashedNames();
        Check.add(x, 0, "first", 1);
        Check.add(x, 7, "second", 1);
        Check.dueNth(x, 0, 0, "first");
        Check.dueNth(x, 7, 0, "second");
        Check.dueNth(x, 0, 0, "first");
        Check.dueTold(x, "first");
    }

    private static void otherCalls() {
        HashedNames x = new HashedNames();
        Check.add(x, 0, "first", 1);
        Check.dueNth(x, 0, 0, "first");
        Check.due("add", Check.add(x, 0, "earlier", 2), 2);
        Check.dueTold(x, "first");
        Check.due("find", Check.find(x, 0, "earlier"), 2);
        Check.dueTold(x, "first");
        Check.due("change", Check.change(x, 0, "earlier", 3), 2);
        Check.dueTold(x, "first");
        Check.due("size", x.size(0), 2);
        Check.dueTold(x, "first");
        Check.due("remove", Check.remove(x, 0, "earlier"), 3);
        Check.dueTold(x, "first");
    }

    private static void itsNameGoes() {
        HashedNames x = new HashedNames();
        Check.add(x, 0, "first", 1);
        Check.dueNth(x, 0, 0, "first");
        Check.due("remove", Check.remove(x, 0, "first"), 1);
        Check.dueTold(x, "first");
    }

    private static void anotherGetsItsPlace() {
        HashedNames x = new HashedNames();
        Check.add(x, 0, "first", 1);
        Check.dueNth(x, 0, 0, "first");
        Check.remove(x, 0, "first");
        Check.add(x, 0, "another", 2);
        Check.dueTold(x, "first");
        Check.dueNth(x, 0, 0, "another");
        Check.add(x, 0, "a", 3);
        Check.dueTold(x, "another");
    }

    private static void handIsAnother() {
        HashedNames x = new HashedNames();
        Check.add(x, 0, "first", 1);
        Check.dueNth(x, 0, 0, "first");
        x.say(-1, -1, -1, -1, -1);
        Check.dueTold(x, "first");
        Check.due("find", x.find(0, 20), -1);
        Check.dueTold(x, "first");
    }

    private static void refusedChangesNothing() {
        HashedNames x = new HashedNames();
        Check.add(x, 0, "ab", 5);
        Check.dueNth(x, 0, 0, "ab");
        Check.refusesArgument("byteAt(-1)", () -> x.byteAt(-1));
        Check.dueTold(x, "ab");
        Check.dueNames(x, 0, 5, "ab");
    }
}
