/** The four calls that are about the name at hand, so that their common boundaries are told once. */
enum NameCall {
    ADD(1) {
        @Override
        int made(HashedNames x, int directory, int n) {
            return x.add(directory, n, ID);
        }
    },
    FIND(NameCall.ID) {
        @Override
        int made(HashedNames x, int directory, int n) {
            return x.find(directory, n);
        }
    },
    REMOVE(NameCall.ID) {
        @Override
        int made(HashedNames x, int directory, int n) {
            return x.remove(directory, n);
        }
    },
    CHANGE(NameCall.ID) {
        @Override
        int made(HashedNames x, int directory, int n) {
            return x.change(directory, n, ID + 1);
        }
    };

    static final int ID = 5;
    static final String TWENTY = "abcdefghijklmnopqrst";

    /** What the call answers about a name that it can be made for. */
    private final int answer;

    NameCall(int answer) {
        this.answer = answer;
    }

    abstract int made(HashedNames x, int directory, int n);

    /** Tests each boundary that the call's directory and name have. */
    void testBoundaries() {
        test("directory 0 is the first", () -> dueTaken(TWENTY, 0, 20));
        test("directory 7 is the last", () -> dueTaken(TWENTY, 7, 20));
        test("no directory below 0", () -> dueNoDirectory(-1, -2, -8, Integer.MIN_VALUE));
        test("no directory above 7", () -> dueNoDirectory(8, 9, 15, 16, 255, 256, 1 << 28, 1 << 29,
                Integer.MAX_VALUE));
        test("a name of 1 byte is the shortest", () -> dueTaken(TWENTY, 3, 1));
        test("a name of 20 bytes is the longest", () -> dueTaken(TWENTY, 3, 20));
        test("no name below 1 byte", () -> dueNoLength(0, -1, -4, -20, Integer.MIN_VALUE));
        test("no name above 20 bytes", () -> dueNoLength(21, 22, 24, 32, 256, 257, 1 << 30,
                Integer.MAX_VALUE));
        test("a byte 0 in any place", () -> dueNoByte(0));
        test("a byte 47 in any place", () -> dueNoByte(47));
        for (int b : new int[] {1, 46, 48, 127, 128, 175, 255}) {
            test("a byte " + b + " in any place", () -> dueByte(b));
        }
        test("each argument wrong at once", this::dueAllWrong);
    }

    private void test(String boundary, Runnable body) {
        Check.test(name() + ": " + boundary, body);
    }

    /** That the call takes the first n bytes of a text, in a directory, as a name. */
    private void dueTaken(String text, int directory, int n) {
        HashedNames x = new HashedNames();
        Check.say(x, text);
        makeReady(x, directory, n);
        Check.due(shown(directory, n), Check.outcome(() -> made(x, directory, n)), answer);
    }

    private void dueNoDirectory(int... bad) {
        for (int directory : bad) {
            dueRefused(TWENTY, directory, 1);
            dueRefused(TWENTY, directory, 20);
        }
    }

    private void dueNoLength(int... bad) {
        for (int n : bad) {
            dueRefused(TWENTY, 0, n);
            dueRefused(TWENTY, 7, n);
        }
    }

    /** The bytes before the bad one are a name, and with it they are none. */
    private void dueNoByte(int bad) {
        for (int at = 0; at < 20; at++) {
            String text = withByte(at, bad);
            if (at > 0) {
                dueTaken(text, 2, at);
            }
            dueRefused(text, 2, at + 1);
            dueRefused(text, 2, 20);
        }
    }

    private void dueByte(int good) {
        for (int at = 0; at < 20; at++) {
            dueTaken(withByte(at, good), 2, at + 1);
            dueTaken(withByte(at, good), 2, 20);
        }
    }

    private void dueAllWrong() {
        dueRefused(TWENTY, -1, 0);
        dueRefused(TWENTY, 8, 21);
        dueRefused("/", 8, 1);
        dueRefused("", -1, 1);
    }

    /** That the call refuses its arguments, and that all names stay as they were. */
    private void dueRefused(String text, int directory, int n) {
        HashedNames x = new HashedNames();
        Check.add(x, 0, "a", 11);
        Check.add(x, 0, TWENTY, 12);
        Check.add(x, 7, "a", 21);
        Check.say(x, text);
        Check.due(shown(directory, n), Check.outcome(() -> made(x, directory, n)), Check.ARGUMENT);
        Check.dueNames(x, 0, 11, "a", TWENTY);
        Check.dueNames(x, 7, 21, "a");
        for (int d = 1; d < 7; d++) {
            Check.due("size(" + d + ")", x.size(d), 0);
        }
    }

    private void makeReady(HashedNames x, int directory, int n) {
        if (this != ADD) {
            x.add(directory, n, ID);
        }
    }

    private String shown(int directory, int n) {
        return name() + " in " + directory + " of " + n + " bytes";
    }

    private static String withByte(int at, int b) {
        StringBuilder text = new StringBuilder(TWENTY);
        text.setCharAt(at, (char) b);
        return text.toString();
    }
}
