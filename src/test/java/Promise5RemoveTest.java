/** Promise 5: remove() takes a name away and answers the id that it had. */
public final class Promise5RemoveTest {
    public static void main(String[] args) {
        Check.test("the name goes", Promise5RemoveTest::theNameGoes);
        Check.test("the others stay", Promise5RemoveTest::theOthersStay);
        Check.end();
    }

    private static void theNameGoes() {
        HashedNames x = new HashedNames();
        Check.due("remove from nothing", Check.remove(x, 0, "gone"), Check.STATE);
        Check.add(x, 0, "gone", 77);
        Check.add(x, 1, "gone", 78);
        Check.due("remove of a beginning", Check.remove(x, 0, "gon"), Check.STATE);
        Check.due("remove", Check.remove(x, 0, "gone"), 77);
        Check.due("remove again", Check.remove(x, 0, "gone"), Check.STATE);
        Check.due("find", Check.find(x, 0, "gone"), -1);
        Check.due("size", x.size(0), 0);
        Check.due("nth", x.nth(0, 0), -1);
        Check.due("find elsewhere", Check.find(x, 1, "gone"), 78);
        Check.due("size elsewhere", x.size(1), 1);
    }

    /** Whatever order names come and go in, their neighbours in buckets and in order are kept. */
    private static void theOthersStay() {
        for (int step : new int[] {1, 5, 7, 11, 47}) {
            HashedNames x = new HashedNames();
            for (int i = 0; i < 48; i++) {
                Check.add(x, 5, text(i), i + 1);
            }
            boolean[] gone = new boolean[48];
            for (int i = 0; i < 48; i++) {
                int which = i * step % 48;
                Check.due("remove " + which, Check.remove(x, 5, text(which)), which + 1);
                gone[which] = true;
                Check.due("size", x.size(5), 47 - i);
                dueLeft(x, gone, i);
            }
        }
    }

    /** A few names at a time, because an object is used for at most 512 calls. */
    private static void dueLeft(HashedNames x, boolean[] gone, int turn) {
        int probe = turn * 13 % 48;
        Check.due("find " + probe, Check.find(x, 5, text(probe)), gone[probe] ? -1 : probe + 1);
        int first = 0;
        while (first < 48 && gone[first]) {
            first++;
        }
        Check.due("nth", x.nth(5, 0), first == 48 ? -1 : 3);
        Check.due("byteAt(2)", x.byteAt(2), first == 48 ? -1 : text(first).charAt(2));
    }

    private static String text(int i) {
        return "f" + (char) ('a' + i / 10) + (char) ('0' + i % 10);
    }
}
