/** The document's bound on an object's use: "at most 512 calls"; the 512th is still answered. */
public final class LastCallTest {
    private static final int CALLS_BEFORE = 511;

    public static void main(String[] args) {
        Check.test("the 512th call after names that come and go", LastCallTest::comeAndGo);
        Check.test("the 512th call after changes", LastCallTest::changes);
        Check.test("the 512th call after refused calls", LastCallTest::refusals);
        Check.test("the 512th call of an object with all names", LastCallTest::allNames);
        Check.end();
    }

    private static void comeAndGo() {
        HashedNames x = new HashedNames();
        Check.say(x, NameCall.TWENTY);
        for (int made = 1; made < CALLS_BEFORE; made += 2) {
            int n = made % 20 + 1;
            Check.due("add", x.add(0, n, made), 1);
            Check.due("remove", x.remove(0, n), made);
        }
        Check.due("the 512th call", x.add(0, 20, 9), 1);
    }

    private static void changes() {
        HashedNames x = new HashedNames();
        Check.say(x, "a");
        x.add(0, 1, 2);
        for (int made = 2; made < CALLS_BEFORE; made++) {
            Check.due("change", x.change(0, 1, made + 1), made);
        }
        Check.due("the 512th call", x.find(0, 1), CALLS_BEFORE);
    }

    private static void refusals() {
        HashedNames x = new HashedNames();
        Check.say(x, "a");
        for (int made = 1; made < CALLS_BEFORE; made++) {
            Check.refusesState("remove", () -> x.remove(0, 1));
        }
        Check.due("the 512th call", x.add(0, 1, 9), 1);
    }

    private static void allNames() {
        HashedNames x = new HashedNames();
        int made = 0;
        for (int part = 0; part < 3; part++) {
            Check.say(x, (char) ('A' + part) + NameCall.TWENTY.substring(1));
            made++;
            for (int d = 0; d < 8; d++) {
                for (int n = 1; n <= 16; n++) {
                    x.add(d, n, 1);
                    made++;
                }
            }
        }
        for (; made < CALLS_BEFORE - 1; made++) {
            Check.due("size", x.size(made % 8), 48);
        }
        Check.due("the 511th call", x.nth(7, 47), 16);
        Check.due("the 512th call", x.byteAt(15), 'p');
    }
}
