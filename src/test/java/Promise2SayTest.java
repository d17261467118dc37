/** Promise 2: say() tells twenty bytes, the highest of each int first, and they stay. */
public final class Promise2SayTest {
    public static void main(String[] args) {
        Check.test("bytes come highest first", Promise2SayTest::bytesComeHighestFirst);
        Check.test("the hand stays", Promise2SayTest::theHandStays);
        Check.end();
    }

    private static void bytesComeHighestFirst() {
        HashedNames x = new HashedNames();
        x.say(0x01020304, 0x05060708, 0x7F8081FF, 0x0D0E0F10, 0x111213FE);
        int[] want = {1, 2, 3, 4, 5, 6, 7, 8, 127, 128, 129, 255, 13, 14, 15, 16, 17, 18, 19, 254};
        for (int n = 1; n <= 20; n++) {
            Check.due("add(0, " + n + ", 1)", x.add(0, n, 1), n);
        }
        Check.due("nth(0, 19)", x.nth(0, 19), 20);
        for (int i = 0; i < 20; i++) {
            Check.due("byteAt(" + i + ")", x.byteAt(i), want[i]);
        }
        Check.due("byteAt(20)", x.byteAt(20), -1);
    }

    private static void theHandStays() {
        HashedNames x = new HashedNames();
        Check.say(x, "stays");
        Check.due("add", x.add(0, 5, 1), 1);
        Check.due("add of a beginning", x.add(0, 2, 2), 2);
        Check.due("add elsewhere", x.add(1, 5, 3), 1);
        Check.due("remove", x.remove(0, 5), 1);
        Check.due("nth of a shorter name", x.nth(0, 0), 2);
        Check.refusesArgument("find(0, 6)", () -> x.find(0, 6));
        Check.due("find of the whole name", x.find(1, 5), 3);
    }
}
