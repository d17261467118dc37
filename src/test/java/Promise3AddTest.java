/** Promise 3: add() gives a name an id and answers how many names the directory has. */
public final class Promise3AddTest {
    public static void main(String[] args) {
        Check.test("names are counted by directory", Promise3AddTest::namesAreCountedByDirectory);
        Check.test("a name is added once", Promise3AddTest::aNameIsAddedOnce);
        Check.end();
    }

    private static void namesAreCountedByDirectory() {
        HashedNames x = new HashedNames();
        Check.due("add a to 0", Check.add(x, 0, "a", 1), 1);
        Check.due("add b to 0", Check.add(x, 0, "b", 1), 2);
        Check.due("add a to 7", Check.add(x, 7, "a", 65535), 1);
        Check.due("add ab to 0", Check.add(x, 0, "ab", 65535), 3);
        Check.due("add of 20 bytes", Check.add(x, 0, "abcdefghijklmnopqrst", 3), 4);
        Check.due("find a in 7", Check.find(x, 7, "a"), 65535);
        Check.due("find a in 0", Check.find(x, 0, "a"), 1);
    }

    private static void aNameIsAddedOnce() {
        HashedNames x = new HashedNames();
        Check.due("add", Check.add(x, 1, "twice", 1), 1);
        Check.due("add again", Check.add(x, 1, "twice", 2), Check.STATE);
        Check.due("add with the same id", Check.add(x, 1, "twice", 1), Check.STATE);
        Check.due("its id", Check.find(x, 1, "twice"), 1);
        Check.due("remove", Check.remove(x, 1, "twice"), 1);
        Check.due("add after remove", Check.add(x, 1, "twice", 2), 1);
        Check.due("its new id", Check.find(x, 1, "twice"), 2);
    }
}
