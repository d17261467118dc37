/** Promise 6: change() gives a name another id and answers the one that it had. */
public final class Promise6ChangeTest {
    public static void main(String[] args) {
        Check.test("the id changes", Promise6ChangeTest::theIdChanges);
        Check.end();
    }

    private static void theIdChanges() {
        HashedNames x = new HashedNames();
        Check.add(x, 0, "name", 7);
        Check.add(x, 0, "namer", 8);
        Check.add(x, 1, "name", 9);
        Check.due("change", Check.change(x, 0, "name", 65535), 7);
        Check.due("change back to 1", Check.change(x, 0, "name", 1), 65535);
        Check.due("change to the id that it has", Check.change(x, 0, "name", 1), 1);
        Check.due("find", Check.find(x, 0, "name"), 1);
        Check.due("find the longer one", Check.find(x, 0, "namer"), 8);
        Check.due("find elsewhere", Check.find(x, 1, "name"), 9);
        Check.due("size", x.size(0), 2);
        Check.dueNth(x, 0, 0, "name");
        Check.due("change of what is not there", Check.change(x, 0, "nam", 5), Check.STATE);
        Check.due("change where there is none", Check.change(x, 2, "name", 5), Check.STATE);
        Check.due("size after refusals", x.size(2), 0);
        Check.due("remove", Check.remove(x, 0, "name"), 1);
        Check.due("change of what has gone", Check.change(x, 0, "name", 5), Check.STATE);
    }
}
