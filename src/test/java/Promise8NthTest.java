/** Promise 8: nth() tells names by bytes without a sign rising, a beginning of another first. */
public final class Promise8NthTest {
    public static void main(String[] args) {
        Check.test("names rise", Promise8NthTest::namesRise);
        Check.end();
    }

    private static void namesRise() {
        String[] rising = {"\u0001", "\u0001\u00ff", ".", "0", "A", "a", "a\u0001", "aa", "a\u007f",
            "a\u0080", "a\u00ff", "b", "\u007f\u00ff", "\u0080", "\u0080\u0001", "\u00ff"};
        for (int step : new int[] {1, 3, 5, 15}) {
            HashedNames x = new HashedNames();
            for (int i = 0; i < 16; i++) {
                Check.add(x, 6, rising[i * step % 16], i + 1);
            }
            for (int k = 0; k < 16; k++) {
                Check.dueNth(x, 6, k, rising[k]);
            }
            Check.remove(x, 6, rising[4]);
            Check.dueNth(x, 6, 3, rising[3]);
            Check.dueNth(x, 6, 4, rising[5]);
            Check.due("nth(6, 15)", x.nth(6, 15), -1);
        }
    }
}
