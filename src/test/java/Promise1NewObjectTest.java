/** Promise 1: a new object has no names, and twenty bytes 0 at hand. */
public final class Promise1NewObjectTest {
    public static void main(String[] args) {
        HashedNames x = new HashedNames();
        for (int directory = 0; directory < 8; directory++) {
            int d = directory;
            Check.due("size(" + d + ")", x.size(d), 0);
            Check.due("nth(" + d + ", 0)", x.nth(d, 0), -1);
            Check.due("find in " + d, Check.find(x, d, "a"), -1);
        }
        zerosAreAtHand();
        nothingIsToldYet();
        objectsAreApart();
        Check.end();
    }

    private static void zerosAreAtHand() {
        HashedNames x = new HashedNames();
        Check.refusesArgument("find(0, 1) of zeros", () -> x.find(0, 1));
        Check.refusesArgument("add(0, 1, 1) of zeros", () -> x.add(0, 1, 1));
        Check.refusesArgument("add(0, 20, 1) of zeros", () -> x.add(0, 20, 1));
    }

    private static void nothingIsToldYet() {
        HashedNames x = new HashedNames();
        Check.due("byteAt(0) before nth()", x.byteAt(0), -1);
        Check.due("byteAt(19) before nth()", x.byteAt(19), -1);
    }

    private static void objectsAreApart() {
        HashedNames x = new HashedNames();
        HashedNames y = new HashedNames();
        Check.due("add", Check.add(x, 3, "one", 5), 1);
        Check.due("size of another object", y.size(3), 0);
        Check.due("find in another object", Check.find(y, 3, "one"), -1);
        Check.due("find in the object", Check.find(x, 3, "one"), 5);
    }
}
