/**
 * The boundaries of promise 3: "no such directory or id, or no name"; "it is there, or there are
 * 48".
 */
public final class Boundary3AddTest {
    public static void main(String[] args) {
        NameCall.ADD.testBoundaries();
        Check.test("id 1 is the first", () -> dueId(1));
        Check.test("id 65,535 is the last", () -> dueId(65535));
        Check.test("no id below 1", () -> dueNoId(0, -1, -65535, Integer.MIN_VALUE));
        Check.test("no id above 65,535", () -> dueNoId(65536, 65537, 131071, 1 << 30,
                Integer.MAX_VALUE));
        Check.test("it is there", Boundary3AddTest::itIsThere);
        Check.test("it is there in another directory", Boundary3AddTest::itIsThereElsewhere);
        Check.test("its beginnings are other names", Boundary3AddTest::beginningsAreOthers);
        Check.test("names of one other byte", Boundary3AddTest::oneOtherByte);
        Check.test("it has been there", Boundary3AddTest::itHasBeenThere);
        Check.test("the 48th name", Boundary3AddTest::fortyEighth);
        Check.test("the 49th name", Boundary3AddTest::fortyNinth);
        Check.test("a full directory has it already", Boundary3AddTest::fullAndThere);
        Check.test("a full directory loses one", Boundary3AddTest::fullLosesOne);
        Check.test("a full directory beside it", Boundary3AddTest::fullBesideIt);
        Check.test("all eight directories are full", Boundary3AddTest::allAreFull);
        Check.test("the answer after a remove", Boundary3AddTest::answerAfterRemove);
        Check.test("a wrong argument and it is there", Boundary3AddTest::wrongAndThere);
        Check.test("a wrong argument and it is full", Boundary3AddTest::wrongAndFull);
        Check.test("a refused add changes nothing", Boundary3AddTest::refusedChangesNothing);
        Check.end();
    }

    private static void dueId(int id) {
        HashedNames x = new HashedNames();
        Check.due("add with id " + id, Check.add(x, 0, "a", id), 1);
        Check.due("find", Check.find(x, 0, "a"), id);
    }

    private static void dueNoId(int... bad) {
        HashedNames x = new HashedNames();
        for (int id : bad) {
            Check.due("add with id " + id, Check.add(x, 0, "a", id), Check.ARGUMENT);
        }
        Check.due("size", x.size(0), 0);
        Check.due("find", Check.find(x, 0, "a"), -1);
    }

    private static void itIsThere() {
        HashedNames x = new HashedNames();
        Check.due("add", Check.add(x, 0, "a", 5), 1);
        Check.due("add with another id", Check.add(x, 0, "a", 6), Check.STATE);
        Check.due("add with its id", Check.add(x, 0, "a", 5), Check.STATE);
        Check.dueNames(x, 0, 5, "a");
        Check.due("add of 20 bytes", Check.add(x, 0, NameCall.TWENTY, 6), 2);
        Check.due("add of them again", Check.add(x, 0, NameCall.TWENTY, 7), Check.STATE);
        Check.dueNames(x, 0, 5, "a", NameCall.TWENTY);
    }

    private static void itIsThereElsewhere() {
        HashedNames x = new HashedNames();
        for (int d = 0; d < 8; d++) {
            Check.due("add to " + d, Check.add(x, d, "a", 10 + d), 1);
        }
        for (int d = 0; d < 8; d++) {
            Check.dueNames(x, d, 10 + d, "a");
        }
    }

    private static void beginningsAreOthers() {
        HashedNames x = new HashedNames();
        Check.say(x, NameCall.TWENTY);
        Check.due("add of 10 bytes", x.add(0, 10, 10), 1);
        Check.due("add of 9 bytes", x.add(0, 9, 9), 2);
        Check.due("add of 11 bytes", x.add(0, 11, 11), 3);
        Check.due("add of 1 byte", x.add(0, 1, 1), 4);
        Check.due("add of 20 bytes", x.add(0, 20, 20), 5);
        for (int n : new int[] {1, 9, 10, 11, 20}) {
            Check.due("find of " + n + " bytes", x.find(0, n), n);
        }
    }

    private static void oneOtherByte() {
        HashedNames x = new HashedNames();
        Check.due("add", Check.add(x, 0, NameCall.TWENTY, 1), 1);
        for (int at = 0; at < 20; at++) {
            StringBuilder other = new StringBuilder(NameCall.TWENTY);
            other.setCharAt(at, (char) (NameCall.TWENTY.charAt(at) + 128));
            int due = at + 2;
            Check.due("add, byte " + at, Check.add(x, 0, other.toString(), due), due);
        }
        Check.due("find", Check.find(x, 0, NameCall.TWENTY), 1);
    }

    private static void itHasBeenThere() {
        HashedNames x = new HashedNames();
        Check.add(x, 0, "a", 5);
        Check.due("remove", Check.remove(x, 0, "a"), 5);
        Check.due("add", Check.add(x, 0, "a", 6), 1);
        Check.due("add again", Check.add(x, 0, "a", 7), Check.STATE);
        Check.dueNames(x, 0, 6, "a");
    }

    private static void fortyEighth() {
        for (int d : new int[] {0, 7}) {
            HashedNames x = new HashedNames();
            for (int i = 0; i < 47; i++) {
                Check.add(x, d, Check.fullName(i), 101 + i);
            }
            Check.due("size", x.size(d), 47);
            Check.due("add", Check.add(x, d, Check.fullName(47), 148), 48);
            for (int i = 0; i < 48; i++) {
                Check.due("find " + i, Check.find(x, d, Check.fullName(i)), 101 + i);
            }
        }
    }

    private static void fortyNinth() {
        for (int d : new int[] {0, 7}) {
            HashedNames x = new HashedNames();
            Check.fill(x, d);
            Check.due("add", Check.add(x, d, "more", 1), Check.STATE);
            Check.due("add again", Check.add(x, d, "more", 1), Check.STATE);
            Check.due("size", x.size(d), 48);
            Check.due("find", Check.find(x, d, "more"), -1);
            for (int i = 0; i < 48; i++) {
                Check.due("find " + i, Check.find(x, d, Check.fullName(i)), 101 + i);
            }
            Check.due("nth(48)", x.nth(d, 48), -1);
        }
    }

    private static void fullAndThere() {
        HashedNames x = new HashedNames();
        Check.fill(x, 3);
        for (int i = 0; i < 48; i++) {
            Check.due("add " + i, Check.add(x, 3, Check.fullName(i), 1), Check.STATE);
            Check.due("find " + i, x.find(3, 2), 101 + i);
        }
        Check.due("size", x.size(3), 48);
    }

    private static void fullLosesOne() {
        for (int gone : new int[] {0, 1, 23, 46, 47}) {
            HashedNames x = new HashedNames();
            Check.fill(x, 3);
            Check.due("remove", Check.remove(x, 3, Check.fullName(gone)), 101 + gone);
            Check.due("add of another", Check.add(x, 3, "more", 1), 48);
            Check.due("add of the one that went", Check.add(x, 3, Check.fullName(gone), 1),
                    Check.STATE);
            Check.due("find another", Check.find(x, 3, "more"), 1);
            for (int i = 0; i < 48; i++) {
                Check.due("find " + i, Check.find(x, 3, Check.fullName(i)),
                        i == gone ? -1 : 101 + i);
            }
        }
    }

    private static void fullBesideIt() {
        for (int full : new int[] {0, 3, 7}) {
            HashedNames x = new HashedNames();
            Check.fill(x, full);
            for (int d = 0; d < 8; d++) {
                Check.due("add to " + d, Check.add(x, d, "more", 1), d == full ? Check.STATE : 1);
            }
        }
    }

    /** Beginnings of three names, because a say() for each of 384 would be too many calls. */
    private static void allAreFull() {
        HashedNames x = new HashedNames();
        for (int part = 0; part < 3; part++) {
            Check.say(x, (char) ('A' + part) + NameCall.TWENTY.substring(1));
            for (int d = 0; d < 8; d++) {
                for (int n = 1; n <= 16; n++) {
                    Check.due("add to " + d, x.add(d, n, 1 + d * 48 + part * 16 + n), part * 16 + n);
                }
            }
        }
        for (int d = 0; d < 8; d++) {
            int directory = d;
            Check.refusesState("a 49th name in " + d, () -> x.add(directory, 17, 1));
            Check.due("size(" + d + ")", x.size(d), 48);
            Check.due("find the last one in " + d, x.find(d, 16), 1 + d * 48 + 48);
            Check.due("find the 33rd one in " + d, x.find(d, 1), 1 + d * 48 + 33);
            Check.due("nth(" + d + ", 47)", x.nth(d, 47), 16);
            Check.due("nth(" + d + ", 48)", x.nth(d, 48), -1);
        }
    }

    private static void answerAfterRemove() {
        HashedNames x = new HashedNames();
        Check.due("add a", Check.add(x, 0, "a", 1), 1);
        Check.due("remove a", Check.remove(x, 0, "a"), 1);
        Check.due("add b", Check.add(x, 0, "b", 1), 1);
        Check.due("add c", Check.add(x, 0, "c", 1), 2);
        Check.due("remove b", Check.remove(x, 0, "b"), 1);
        Check.due("add d", Check.add(x, 0, "d", 1), 2);
    }

    private static void wrongAndThere() {
        HashedNames x = new HashedNames();
        Check.add(x, 0, "a", 5);
        Check.due("no such id", Check.add(x, 0, "a", 0), Check.ARGUMENT);
        Check.due("no such id", Check.add(x, 0, "a", 65536), Check.ARGUMENT);
        Check.due("no such directory", Check.add(x, 8, "a", 5), Check.ARGUMENT);
        Check.dueNames(x, 0, 5, "a");
    }

    private static void wrongAndFull() {
        HashedNames x = new HashedNames();
        Check.fill(x, 0);
        Check.due("no such id", Check.add(x, 0, "more", 0), Check.ARGUMENT);
        Check.due("no such id", Check.add(x, 0, "more", 65536), Check.ARGUMENT);
        Check.due("no name", Check.add(x, 0, "", 1), Check.ARGUMENT);
        Check.due("no name", Check.add(x, 0, "a/", 1), Check.ARGUMENT);
        Check.say(x, NameCall.TWENTY);
        Check.refusesArgument("a name too long", () -> x.add(0, 21, 1));
        Check.due("size", x.size(0), 48);
    }

    private static void refusedChangesNothing() {
        HashedNames x = new HashedNames();
        Check.add(x, 0, "b", 5);
        Check.add(x, 0, "d", 6);
        Check.due("nth", x.nth(0, 1), 1);
        Check.due("there", Check.add(x, 0, "b", 9), Check.STATE);
        Check.due("no id", Check.add(x, 0, "c", 0), Check.ARGUMENT);
        Check.due("no name", Check.add(x, 0, "c/", 1), Check.ARGUMENT);
        Check.due("no directory", Check.add(x, -1, "c", 1), Check.ARGUMENT);
        Check.dueTold(x, "d");
        Check.dueNames(x, 0, 5, "b", "d");
        Check.due("add", Check.add(x, 0, "e", 7), 3);
    }
}
