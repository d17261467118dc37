/** Promise 8: nth() tells names by bytes without a sign rising, a beginning of another first. */
public final class Promise8NthTest {
    public static void main(String[] args) {
        namesRise();
        beginningsComeFirst();
        everyByteOrders();
        tooFarTellsNothing();
        badArgumentsAreRefused();
        Check.end();
    }

    private static void namesRise() {
        String[] rising = {"\u0001", "\u0001\u00ff", ".", "0", "A", "a", "a\u0001", "aa", "a\u007f",
            "a\u0080", "a\u00ff", "b", "\u007f\u00ff", "\u0080", "\u0080\u0001", "\u00ff"};
        for (int step : new int[] {1, 3, 5, 15}) {
            HashedNames x = new HashedNames();
            for (int i = 0; i < 16; i++) {
                Check.add(x, 6, rising[i * step % 16], i + 1);
            }
            for (int k = 0; k < 16; k++) {
                Check.dueNth(x, 6, k, rising[k]);
            }
            Check.remove(x, 6, rising[4]);
            Check.dueNth(x, 6, 3, rising[3]);
            Check.dueNth(x, 6, 4, rising[5]);
            Check.due("nth(6, 15)", x.nth(6, 15), -1);
        }
    }

    private static void beginningsComeFirst() {
        HashedNames x = new HashedNames();
        String name = "abcdefghijklmnopqrst";
        Check.say(x, name);
        for (int n = 20; n >= 1; n--) {
            x.add(0, n, n);
        }
        for (int k = 0; k < 20; k++) {
            Check.due("nth(0, " + k + ")", x.nth(0, k), k + 1);
            Check.due("byteAt(" + k + ")", x.byteAt(k), name.charAt(k));
        }
    }

    private static void everyByteOrders() {
        for (int at = 0; at < 20; at++) {
            StringBuilder name = new StringBuilder("mmmmmmmmmmmmmmmmmmmm");
            name.setCharAt(at, '\u007f');
            String low = name.toString();
            name.setCharAt(at, '\u0080');
            String high = name.toString();
            HashedNames x = new HashedNames();
            Check.add(x, 0, high, 1);
            Check.add(x, 0, low, 2);
            Check.dueNth(x, 0, 0, low);
            Check.dueNth(x, 0, 1, high);
        }
    }

    private static void tooFarTellsNothing() {
        HashedNames x = new HashedNames();
        Check.add(x, 3, "only", 1);
        for (int k : new int[] {1, 2, 47, 48, Integer.MAX_VALUE}) {
            Check.dueNth(x, 3, 0, "only");
            Check.due("nth(3, " + k + ")", Check.outcome(() -> x.nth(3, k)), -1);
            Check.dueTold(x, "");
        }
        Check.dueNth(x, 3, 0, "only");
        Check.due("nth where there is none", x.nth(4, 0), -1);
        Check.dueTold(x, "");
    }

    private static void badArgumentsAreRefused() {
        HashedNames x = new HashedNames();
        Check.add(x, 0, "a", 1);
        Check.dueNth(x, 0, 0, "a");
        for (int bad : new int[] {-1, 8, Integer.MIN_VALUE, Integer.MAX_VALUE}) {
            Check.refusesArgument("nth(" + bad + ", 0)", () -> x.nth(bad, 0));
        }
        for (int bad : new int[] {-1, Integer.MIN_VALUE}) {
            Check.refusesArgument("nth(0, " + bad + ")", () -> x.nth(0, bad));
        }
        // A refused nth() has told nothing, so the one before it is still the latest.
        Check.dueTold(x, "a");
    }
}
