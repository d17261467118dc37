/** Promise 9: byteAt() answers a byte, 0 to 255, of the latest nth(), and -1 behind it. */
public final class Promise9ByteAtTest {
    public static void main(String[] args) {
        bytesHaveNoSign();
        behindTheNameIsNothing();
        theLatestNthIsTold();
        badArgumentsAreRefused();
        Check.end();
    }

    private static void bytesHaveNoSign() {
        HashedNames x = new HashedNames();
        Check.add(x, 0, "\u0001\u007f\u0080\u00ff\u00fe", 1);
        Check.dueNth(x, 0, 0, "\u0001\u007f\u0080\u00ff\u00fe");
        for (int b = 1; b < 256; b++) {
            if (b != 47) {
                HashedNames y = new HashedNames();
                Check.add(y, 0, "" + (char) b, 1);
                Check.dueNth(y, 0, 0, "" + (char) b);
            }
        }
    }

    private static void behindTheNameIsNothing() {
        HashedNames x = new HashedNames();
        Check.add(x, 0, "abcdefghijklmnopqrst", 1);
        Check.add(x, 0, "abcde", 1);
        for (int length : new int[] {20, 5}) {
            Check.due("nth", x.nth(0, length == 20 ? 1 : 0), length);
            for (int i : new int[] {20, 21, 24, 255, 256, 1 << 30, Integer.MAX_VALUE}) {
                Check.due("byteAt(" + i + ")", Check.outcome(() -> x.byteAt(i)), -1);
            }
        }
        Check.due("byteAt(4)", x.byteAt(4), 'e');
        Check.due("byteAt(5)", x.byteAt(5), -1);
        Check.due("byteAt(19)", x.byteAt(19), -1);
    }

    private static void theLatestNthIsTold() {
        HashedNames x = new HashedNames();
        Check.add(x, 0, "first", 1);
        Check.add(x, 1, "second", 1);
        Check.dueNth(x, 0, 0, "first");
        Check.dueNth(x, 1, 0, "second");
        Check.dueNth(x, 0, 0, "first");
        Check.add(x, 0, "earlier", 2);
        Check.dueTold(x, "first");
        Check.find(x, 0, "earlier");
        Check.change(x, 0, "earlier", 3);
        x.size(0);
        Check.dueTold(x, "first");
        Check.remove(x, 0, "first");
        Check.dueTold(x, "first");
        Check.add(x, 0, "another", 2);
        Check.dueTold(x, "first");
    }

    private static void badArgumentsAreRefused() {
        HashedNames x = new HashedNames();
        for (int bad : new int[] {-1, -20, Integer.MIN_VALUE}) {
            Check.refusesArgument("byteAt(" + bad + ") before nth", () -> x.byteAt(bad));
        }
        Check.add(x, 0, "name", 1);
        Check.dueNth(x, 0, 0, "name");
        for (int bad : new int[] {-1, -20, Integer.MIN_VALUE}) {
            Check.refusesArgument("byteAt(" + bad + ") after nth", () -> x.byteAt(bad));
        }
        Check.dueTold(x, "name");
    }
}
