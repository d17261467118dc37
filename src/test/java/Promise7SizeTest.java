/** Promise 7: size() answers how many names a directory has. */
public final class Promise7SizeTest {
    public static void main(String[] args) {
        directoriesAreCountedApart();
        fortyEightAreCounted();
        badArgumentsAreRefused();
        Check.end();
    }

    private static void directoriesAreCountedApart() {
        HashedNames x = new HashedNames();
        for (int d = 0; d < 8; d++) {
            for (int i = 0; i < d; i++) {
                Check.add(x, d, "n" + i, 1);
            }
        }
        for (int d = 0; d < 8; d++) {
            Check.due("size(" + d + ")", x.size(d), d);
        }
        Check.remove(x, 7, "n3");
        Check.remove(x, 7, "n3");
        Check.add(x, 7, "n4", 1);
        Check.change(x, 7, "n4", 2);
        Check.find(x, 7, "n9");
        Check.due("size(7)", x.size(7), 6);
        Check.due("size(6)", x.size(6), 6);
    }

    private static void fortyEightAreCounted() {
        HashedNames x = new HashedNames();
        for (int i = 0; i < 49; i++) {
            Check.add(x, 0, "n" + i, 1);
        }
        Check.due("size(0)", x.size(0), 48);
    }

    private static void badArgumentsAreRefused() {
        HashedNames x = new HashedNames();
        for (int bad : new int[] {-1, 8, Integer.MIN_VALUE, Integer.MAX_VALUE}) {
            Check.refusesArgument("size(" + bad + ")", () -> x.size(bad));
        }
    }
}
