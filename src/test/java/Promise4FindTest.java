/** Promise 4: find() answers a name's id, or -1 when it is not there. */
public final class Promise4FindTest {
    public static void main(String[] args) {
        Check.test("whole names are found", Promise4FindTest::wholeNamesAreFound);
        Check.end();
    }

    private static void wholeNamesAreFound() {
        HashedNames x = new HashedNames();
        Check.add(x, 0, "alpha", 7);
        Check.add(x, 0, "al", 65535);
        Check.due("find alpha", Check.find(x, 0, "alpha"), 7);
        Check.due("find al", Check.find(x, 0, "al"), 65535);
        Check.due("find alp", Check.find(x, 0, "alp"), -1);
        Check.due("find a", Check.find(x, 0, "a"), -1);
        Check.due("find alphab", Check.find(x, 0, "alphab"), -1);
        Check.due("find Alpha", Check.find(x, 0, "Alpha"), -1);
        Check.due("find elsewhere", Check.find(x, 1, "alpha"), -1);
        Check.due("size after finds", x.size(0), 2);
    }
}
