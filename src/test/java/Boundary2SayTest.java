/** The boundaries of promise 2: "twenty bytes, the highest of each int first"; "it stays". */
public final class Boundary2SayTest {
    private static final int ONES = 0x01010101;

    public static void main(String[] args) {
        Check.test("the highest byte of each int is first", Boundary2SayTest::highestIsFirst);
        Check.test("each byte has its own place", Boundary2SayTest::eachByteHasItsPlace);
        Check.test("the least int", Boundary2SayTest::leastInt);
        Check.test("the greatest int", Boundary2SayTest::greatestInt);
        Check.test("ints with each bit set", Boundary2SayTest::allBits);
        Check.test("zeros said are no name", Boundary2SayTest::zerosSaid);
        Check.test("the twentieth byte is the last", Boundary2SayTest::twentiethIsLast);
        Check.test("nothing stays of what was at hand", Boundary2SayTest::nothingStaysOfTheFormer);
        Check.test("it stays after calls that answer", Boundary2SayTest::staysAfterAnswers);
        Check.test("it stays after calls that throw", Boundary2SayTest::staysAfterRefusals);
        Check.test("names that are kept stay", Boundary2SayTest::keptNamesStay);
        Check.end();
    }

    private static void highestIsFirst() {
        for (int which = 0; which < 5; which++) {
            int[] w = {ONES, ONES, ONES, ONES, ONES};
            w[which] = 0x80FE7F02;
            HashedNames x = new HashedNames();
            x.say(w[0], w[1], w[2], w[3], w[4]);
            x.add(0, 20, 1);
            x.nth(0, 0);
            Check.due("highest byte of int " + which, x.byteAt(which * 4), 0x80);
            Check.due("second byte of int " + which, x.byteAt(which * 4 + 1), 0xFE);
            Check.due("third byte of int " + which, x.byteAt(which * 4 + 2), 0x7F);
            Check.due("lowest byte of int " + which, x.byteAt(which * 4 + 3), 0x02);
        }
    }

    private static void eachByteHasItsPlace() {
        for (int at = 0; at < 20; at++) {
            int[] w = {ONES, ONES, ONES, ONES, ONES};
            w[at / 4] += 199 << (24 - 8 * (at % 4));
            HashedNames x = new HashedNames();
            x.say(w[0], w[1], w[2], w[3], w[4]);
            x.add(0, 20, 1);
            x.nth(0, 0);
            for (int i = 0; i < 20; i++) {
                Check.due("byteAt(" + i + ")", x.byteAt(i), i == at ? 200 : 1);
            }
        }
    }

    private static void leastInt() {
        HashedNames x = new HashedNames();
        x.say(Integer.MIN_VALUE, ONES, ONES, ONES, ONES);
        Check.due("add of its first byte", x.add(0, 1, 1), 1);
        Check.refusesArgument("add of its second byte, 0", () -> x.add(0, 2, 1));
        Check.dueNth(x, 0, 0, "\u0080");
    }

    private static void greatestInt() {
        HashedNames x = new HashedNames();
        int max = Integer.MAX_VALUE;
        x.say(max, max, max, max, max);
        Check.due("add", x.add(0, 20, 1), 1);
        Check.dueNth(x, 0, 0, "\u007f\u00ff\u00ff\u00ff".repeat(5));
    }

    private static void allBits() {
        HashedNames x = new HashedNames();
        x.say(-1, -1, -1, -1, -1);
        Check.due("add", x.add(0, 20, 1), 1);
        Check.dueNth(x, 0, 0, "\u00ff".repeat(20));
    }

    private static void zerosSaid() {
        HashedNames x = new HashedNames();
        Check.due("add", Check.add(x, 0, "a", 1), 1);
        x.say(0, 0, 0, 0, 0);
        Check.refusesArgument("find(0, 1)", () -> x.find(0, 1));
        Check.refusesArgument("find(0, 20)", () -> x.find(0, 20));
    }

    private static void twentiethIsLast() {
        HashedNames x = new HashedNames();
        x.say(ONES, ONES, ONES, ONES, 0x010101FF);
        Check.due("add(0, 20, 1)", x.add(0, 20, 1), 1);
        Check.refusesArgument("add(0, 21, 1)", () -> x.add(0, 21, 1));
        Check.due("nth(0, 0)", x.nth(0, 0), 20);
        Check.due("byteAt(19)", x.byteAt(19), 255);
        Check.due("byteAt(20)", x.byteAt(20), -1);
    }

    private static void nothingStaysOfTheFormer() {
        for (int left = 0; left < 20; left++) {
            HashedNames x = new HashedNames();
            Check.say(x, NameCall.TWENTY);
            Check.say(x, NameCall.TWENTY.substring(0, left));
            int n = left;
            Check.refusesArgument("find of byte " + left, () -> x.find(0, n + 1));
            if (left > 0) {
                Check.due("find of what was said", x.find(0, left), -1);
            }
        }
    }

    private static void staysAfterAnswers() {
        HashedNames x = new HashedNames();
        Check.say(x, NameCall.TWENTY);
        Check.due("add", x.add(1, 20, 9), 1);
        Check.due("find", x.find(1, 20), 9);
        Check.due("add of a beginning", x.add(1, 1, 8), 2);
        Check.due("find", x.find(1, 20), 9);
        Check.due("change of a beginning", x.change(1, 1, 7), 8);
        Check.due("find", x.find(1, 20), 9);
        Check.due("find of another length", x.find(1, 5), -1);
        Check.due("find", x.find(1, 20), 9);
        Check.due("nth of a shorter name", x.nth(1, 0), 1);
        Check.due("find", x.find(1, 20), 9);
        Check.due("byteAt", x.byteAt(0), 'a');
        Check.due("size", x.size(1), 2);
        Check.due("find", x.find(1, 20), 9);
        Check.due("remove of a beginning", x.remove(1, 1), 7);
        Check.due("find", x.find(1, 20), 9);
        Check.due("remove", x.remove(1, 20), 9);
        Check.due("add", x.add(1, 20, 6), 1);
        Check.dueNth(x, 1, 0, NameCall.TWENTY);
    }

    private static void staysAfterRefusals() {
        HashedNames x = new HashedNames();
        Check.say(x, NameCall.TWENTY);
        Check.due("add", x.add(1, 20, 9), 1);
        Check.refusesState("add of what is there", () -> x.add(1, 20, 9));
        Check.refusesArgument("add of no name", () -> x.add(1, 0, 9));
        Check.refusesArgument("add of no id", () -> x.add(1, 3, 0));
        Check.due("find", x.find(1, 20), 9);
        Check.refusesArgument("find of no name", () -> x.find(1, 21));
        Check.due("find", x.find(1, 20), 9);
        Check.refusesState("remove of what is not there", () -> x.remove(1, 3));
        Check.due("find", x.find(1, 20), 9);
        Check.refusesState("change of what is not there", () -> x.change(1, 3, 1));
        Check.due("find", x.find(1, 20), 9);
        Check.refusesArgument("size", () -> x.size(8));
        Check.refusesArgument("nth", () -> x.nth(1, -1));
        Check.refusesArgument("byteAt", () -> x.byteAt(-1));
        Check.due("find", x.find(1, 20), 9);
    }

    private static void keptNamesStay() {
        HashedNames x = new HashedNames();
        Check.add(x, 0, "kept", 3);
        Check.due("nth", x.nth(0, 0), 4);
        x.say(-1, -1, -1, -1, -1);
        Check.dueTold(x, "kept");
        Check.dueNames(x, 0, 3, "kept");
    }
}
