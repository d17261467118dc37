/** Promise 7: size() answers how many names a directory has. */
public final class Promise7SizeTest {
    public static void main(String[] args) {
        Check.test("directories are counted apart", Promise7SizeTest::directoriesAreCountedApart);
        Check.end();
    }

    private static void directoriesAreCountedApart() {
        HashedNames x = new HashedNames();
        for (int d = 0; d < 8; d++) {
            for (int i = 0; i < d; i++) {
                Check.add(x, d, "n" + i, 1);
            }
        }
        for (int d = 0; d < 8; d++) {
            Check.due("size(" + d + ")", x.size(d), d);
        }
        Check.remove(x, 7, "n3");
        Check.remove(x, 7, "n3");
        Check.add(x, 7, "n4", 1);
        Check.change(x, 7, "n4", 2);
        Check.find(x, 7, "n9");
        Check.due("size(7)", x.size(7), 6);
        Check.due("size(6)", x.size(6), 6);
    }
}
