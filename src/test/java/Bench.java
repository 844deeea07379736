import java.util.Arrays;

/** What the tests share: one path, calls on it by their names, and the count of answers that were not due. */
class Bench {
    static final String RANGE = "throws.IllegalArgumentException";
    static final String INDEX = "throws.IndexOutOfBoundsException";
    static final String STATE = "throws.IllegalStateException";

    /** What an object answers behind so many calls is free, so no test may look at it. */
    static final int MOST_CALLS = 512;
    /** How many bytes the input buffer can have. */
    static final int MOST_INPUT = 500;

    private static FragmentPath x = new FragmentPath();
    private static String title = "";
    private static int calls = 0;
    private static int wrong = 0;

    Bench() { }

    /** Begins a test, which is named by what it holds, with a new path. */
    static void begin(String what) {
        title = what;
        fresh();
    }

    static void fresh() {
        x = new FragmentPath();
        calls = 0;
    }

    static int callsLeft() {
        return MOST_CALLS - calls;
    }

    static void fail(String what, Object got, Object want) {
        wrong++;
        System.out.println(title + ": " + what + " answered " + got + ", due is " + want);
    }

    /** Ends all tests of a class. */
    static void end(String happy) {
        if (wrong > 0) {
            System.out.println(wrong + " answers were not due");
            System.exit(1);
        }
        System.out.println(happy);
    }

    static String call(String name, Object... arguments) {
        calls++;
        if (calls > MOST_CALLS) {
            fail(name, "after too many calls", "no call");
        }
        return Faces.call(x, name, arguments);
    }

    /** A call whose answer does not matter, if only it does not throw. */
    static void go(String name, Object... arguments) {
        String got = call(name, arguments);
        if (got.startsWith("throws")) {
            fail(name + Arrays.toString(arguments), got, "no exception");
        }
    }

    /** Calls a method and looks at its answer. */
    static void due(Object want, String name, Object... arguments) {
        String got = call(name, arguments);
        if (!got.equals(String.valueOf(want))) {
            fail(name + Arrays.toString(arguments), got, want);
        }
    }

    /** Looks at the answers of a getter for 0, 1, 2 ... */
    static void row(String name, Object... wanted) {
        for (int what = 0; what < wanted.length; what++) {
            due(wanted[what], name, what);
        }
    }

    /** Looks at the answers of a getter for an index and 0, 1, 2 ... */
    static void rowOf(String name, int index, Object... wanted) {
        for (int what = 0; what < wanted.length; what++) {
            due(wanted[what], name, index, what);
        }
    }

    /** Puts a text behind what the input buffer has, which must be so many bytes. */
    static void typeBehind(int length, String text) {
        for (int i = 0; i < text.length(); i += 20) {
            go("append", Faces.numbers(text, i));
        }
        due(length + text.length(), "truncate", length + text.length());
    }

    static void type(String text) {
        typeBehind(0, text);
    }

    static void read(String text) {
        type(text);
        go("readText");
    }

    static void run(int done, String text) {
        type(text);
        due(done, "runOrders");
        due(0, "errorCode");
        due(-1, "errorPosition");
    }

    private static void bad(String method, int kind, int position, String text) {
        type(text);
        due(RANGE, method);
        due(kind, "errorCode");
        due(position, "errorPosition");
        due(RANGE, "truncate", 1);
    }

    /** A description with an error. */
    static void badText(int kind, int position, String text) {
        fresh();
        bad("readText", kind, position, text);
    }

    /** Orders with an error, on the path as it is. */
    static void badOrders(int kind, int position, String text) {
        bad("runOrders", kind, position, text);
    }

    /** A method that writes a text, and each byte of it. */
    static void written(String text, String name, Object... arguments) {
        due(text.length(), name, arguments);
        for (int i = 0; i < text.length(); i++) {
            due((int) text.charAt(i), "outputByte", i);
        }
        due(-1, "outputByte", text.length());
        due(-1, "outputByte", -1);
    }
}
