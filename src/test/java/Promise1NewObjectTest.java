/** Promise 1: a new object has no names. */
public final class Promise1NewObjectTest {
    public static void main(String[] args) {
        Check.test("no names", Promise1NewObjectTest::noNames);
        Check.end();
    }

    private static void noNames() {
        HashedNames x = new HashedNames();
        for (int d = 0; d < 8; d++) {
            Check.due("size(" + d + ")", x.size(d), 0);
            Check.due("nth(" + d + ", 0)", x.nth(d, 0), -1);
            Check.due("find in " + d, Check.find(x, d, "a"), -1);
        }
    }
}
