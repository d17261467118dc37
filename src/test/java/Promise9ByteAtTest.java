/** Promise 9: byteAt() answers a byte, 0 to 255, of the latest nth(), and -1 behind it. */
public final class Promise9ByteAtTest {
    public static void main(String[] args) {
        Check.test("bytes have no sign", Promise9ByteAtTest::bytesHaveNoSign);
        Check.test("the latest nth is told", Promise9ByteAtTest::theLatestNthIsTold);
        Check.end();
    }

    private static void bytesHaveNoSign() {
        HashedNames x = new HashedNames();
        Check.add(x, 0, "\u0001\u007f\u0080\u00ff\u00fe", 1);
        Check.dueNth(x, 0, 0, "\u0001\u007f\u0080\u00ff\u00fe");
    }

    private static void theLatestNthIsTold() {
        HashedNames x = new HashedNames();
        Check.add(x, 0, "first", 1);
        Check.add(x, 1, "second", 1);
        Check.dueNth(x, 0, 0, "first");
        Check.dueNth(x, 1, 0, "second");
        Check.dueNth(x, 0, 0, "first");
        Check.add(x, 0, "earlier", 2);
        Check.dueTold(x, "first");
        Check.find(x, 0, "earlier");
        Check.change(x, 0, "earlier", 3);
        x.size(0);
        Check.dueTold(x, "first");
        Check.remove(x, 0, "first");
        Check.dueTold(x, "first");
        Check.add(x, 0, "another", 2);
        Check.dueTold(x, "first");
    }
}
