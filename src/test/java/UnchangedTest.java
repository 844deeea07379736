import java.util.ArrayList;
import java.util.Arrays;
import java.util.List;

/**
 * What calls leave as it was: those that throw, are refused, or only look; changes that are taken back;
 * what is saved and restored. All that an object can be asked is asked ahead of a call and behind it,
 * of objects that are made anew whenever one has had 512 calls.
 */
public final class UnchangedTest extends Bench {
    /** Steps that lead an object to where it is looked at. */
    private interface Scene {
        void play();
    }

    private static final String ROW = "link 100 5 3;link 60 3 0;life 50;policy 1;send 200 7;send 50 255 firm;send 30 3";

    /** A call of each method that only looks. */
    private static final Object[][] LOOKS = {
        {"errorCode"}, {"errorPosition"}, {"size", 8}, {"link", 0, 4}, {"datagram", 0, 8}, {"ownByte", 0, 5},
        {"packet", 3, 3}, {"heap", 0, 2}, {"hole", 0, 1, 0}, {"heapByte", 0, 8}, {"account", 0}, {"gap"},
        {"narrowest"}, {"wholeDelay"}, {"pieces", 1000, 1}, {"burden", 1000}, {"bestLong", 3000}, {"nextProbe"},
        {"isFound"}, {"missing", 0}, {"fills", 0, 0, 1000}, {"handedIn", 0}, {"handedIn", 2}, {"endIn", 0},
        {"endIn", 1}, {"quietIn"}, {"pathIn", 0}, {"pathIn", 600}, {"handedBy", 1, 0}, {"handedBy", 200, 2},
        {"trueShare"}, {"meanTries"}, {"outputByte", 0}, {"truncate", 14}};
    /** Each change, in the order of the orders that are the same. */
    private static final Object[][] CHANGES = {
        {"again", 0}, {"send", 300, 9, false}, {"send", 300, 9, true}, {"again", 1}, {"probe", 90}, {"probe", 101},
        {"forge", 0, 0, 40, 8, true}, {"forge", 0, 0, 200, 8, false}, {"setSize", 0, 40}, {"setEvery", 1, 1},
        {"pass", 1}, {"pass", 70}, {"forge", 2, 8, 8, 1, true}, {"setLife", 1}, {"setPolicy", 2}, {"forget"}};
    private static final String[] ORDERS = {
        "again 0;", "send 300 9;", "send 300 9 firm;", "again 1;", "probe 90;", "probe 101;",
        "forge 0 0 40 8 more;", "forge 0 0 200 8;", "size 0 40;", "every 1 1;",
        "pass 1;", "pass 70;", "forge 2 8 8 1 more;"};

    private static Scene scene = () -> { };
    private static List<String> answers = new ArrayList<>();

    private UnchangedTest() { }

    public static void main(String[] args) {
        throwing();
        refused();
        looking();
        badTexts();
        takenBack();
        doneAnew();
        ordersAsCalls();
        ordersThatEnd();
        readAnew();
        restored();
        keptTexts();
        end("what is to stay stays");
    }

    // ---- scenes ----

    /** All kinds of things are there: six changes, a saved state, texts in both buffers, an error. */
    private static void midway() {
        read(ROW);
        go("pass", 1);
        go("save");
        type("link 100");
        due(RANGE, "readText");
        go("pass", 1);
        due(8, "forge", 0, 8, 8, 9, true);
        go("forge", 2, 0, 30, 3, false);
        due(2, "datagram", 2, 5);
        go("probe", 70);
        go("pass", 4);
        go("setSize", 1, 50);
        go("send", 80, 1, true);
        go("pass", 2);
        go("forge", 3, 40, 16, 5, true);
        go("undo");
        go("writeHeap", 0);
        type("pass 1; pass x");
        due(7, "size", 15);
    }

    /** As many datagrams, heaps, changes and bytes of input as there can be. */
    private static void full() {
        read("link 500 9 0;life 200" + ";send 9 1".repeat(38));
        for (int i = 0; i < 4; i++) {
            go("forge", i, 16, 8, i, true);
        }
        go("forge", 4, 0, 8, 1, false);
        go("send", 8, 8, false);
        go("send", 900, 8, true);
        go("pass", 3);
        go("setLife", 99);
        type("link 28 1 0" + " ".repeat(489));
        due(40, "size", 1);
        due(8, "size", 15);
    }

    /** No account is 0, and as many packets are on their way as there can be. */
    private static void busy() {
        read("link 60 2 0;link 28 1 3;send 40 1;send 40 2 firm");
        go("probe", 28);
        go("probe", 28);
        go("probe", 61);
        go("pass", 4);
        go("forge", 0, 8, 8, 1, true);
        go("forge", 0, 16, 8, 1, true);
        go("forge", 0, 16, 8, 1, true);
        go("setEvery", 1, 0);
        go("send", 1, 7, false);
        go("pass", 2);
        go("setSize", 0, 28);
        go("save");
        go("restore");
        run(2, "probe 28;send 1000 3;");
        run(2, "send 1000 4;send 1000 5;");
        for (int what = 0; what < 12; what++) {
            if (call("account", what).equals("0")) {
                fail("account " + what, 0, "another number");
            }
        }
        due(300, "size", 8);
    }

    private static void late() {
        for (int i = 0; i < 19; i++) {
            go("pass", 500);
        }
        go("pass", 498);
        go("send", 9, 1, false);
        due(9998, "size", 2);
    }

    private static void nothing() { }

    // ---- what is seen ----

    private static void begin(Scene played) {
        scene = played;
        fresh();
        scene.play();
    }

    private static void ask(String name, Object... arguments) {
        if (callsLeft() < 1) {
            begin(scene);
        }
        answers.add(name + Arrays.toString(arguments) + " " + call(name, arguments));
    }

    private static void askEach(String name, int most) {
        for (int what = 0; what <= most; what++) {
            ask(name, what);
        }
    }

    private static void askOf(String name, int index, int most) {
        for (int what = 0; what <= most; what++) {
            ask(name, index, what);
        }
    }

    private static int number(String name, int... arguments) {
        if (callsLeft() < 1) {
            begin(scene);
        }
        Object[] boxed = Arrays.stream(arguments).boxed().toArray();
        return Integer.parseInt(call(name, boxed));
    }

    /** What a change can change. */
    private static void askState(int leastBack) {
        askEach("size", leastBack >= 0 ? 15 : 14);
        askEach("account", 11);
        ask("gap");
        int links = number("size", 0);
        for (int k = 0; k <= links; k++) {
            askOf("link", k, 8);
        }
        int datagrams = number("size", 1);
        for (int d = 0; d <= datagrams; d++) {
            askOf("datagram", d, 8);
            askOf("heap", d, 6);
            if (d < datagrams && number("heap", d, 2) >= 0) {
                for (int i = 0; i < 64; i++) {
                    ask("heapByte", d, i);
                }
            }
        }
        int packets = number("size", 8);
        for (int i = 0; i <= packets; i += packets > 40 ? 7 : 1) {
            askOf("packet", i, 6);
        }
    }

    private static void askForetold() {
        for (int d = 0; d <= Math.min(5, number("size", 1)); d++) {
            ask("handedIn", d);
            ask("endIn", d);
            ask("missing", d);
            ask("ownByte", d, 1);
            ask("hole", d, 0, 1);
            ask("hole", d, 1, 0);
            ask("fills", d, 0, 8);
        }
        for (int ticks : new int[] {0, 1, 7, 100, 600}) {
            ask("pathIn", ticks);
        }
        for (String name : new String[] {"quietIn", "trueShare", "meanTries", "narrowest", "wholeDelay", "nextProbe",
                "isFound"}) {
            ask(name);
        }
        ask("handedBy", 200, 0);
        ask("handedBy", 3, 2);
        ask("pieces", 300, 0);
        ask("burden", 300);
        ask("bestLong", 99);
    }

    private static void askOutput() {
        for (int i = 0; i < 40; i++) {
            ask("outputByte", i);
        }
    }

    /** What can be taken back, change by change. */
    private static void askBacks(Scene played) {
        for (int many = 1; many <= 9; many++) {
            int times = many;
            begin(() -> {
                played.play();
                for (int i = 1; i < times; i++) {
                    call("undo");
                }
            });
            ask("undo");
            begin(() -> {
                played.play();
                for (int i = 1; i <= times; i++) {
                    call("undo");
                }
            });
            askState(0);
        }
    }

    private static void askSaved(Scene played) {
        begin(played);
        ask("restore");
        begin(() -> {
            played.play();
            call("restore");
        });
        askState(0);
    }

    /** The length of the input buffer, and what it is as a text of both kinds. */
    private static void askInput(Scene played) {
        begin(played);
        ask("append", 0, 0, 0, 0, 0);
        begin(played);
        for (int length = 520; length > 480; length--) {
            ask("truncate", length);
        }
        for (String name : new String[] {"readText", "runOrders"}) {
            begin(played);
            ask(name);
            ask("errorCode");
            ask("errorPosition");
            askEach("size", 15);
        }
    }

    /** All that can be seen of an object behind a scene. */
    private static List<String> seen(Scene played, boolean isWithTexts, boolean isWithBacks) {
        answers = new ArrayList<>();
        begin(played);
        askState(isWithBacks ? 0 : -1);
        askForetold();
        begin(played);
        askOutput();
        askSaved(played);
        if (isWithTexts) {
            begin(played);
            ask("errorCode");
            ask("errorPosition");
            askInput(played);
        }
        if (isWithBacks) {
            askBacks(played);
        }
        return answers;
    }

    private static void same(String what, List<String> got, List<String> want) {
        int shown = 0;
        for (int i = 0; i < Math.max(got.size(), want.size()) && shown < 3; i++) {
            String one = i < got.size() ? got.get(i) : "nothing";
            String other = i < want.size() ? want.get(i) : "nothing";
            if (!one.equals(other)) {
                shown++;
                fail(what, one, other);
            }
        }
    }

    private static Scene with(Scene played, String name, Object... arguments) {
        return () -> {
            played.play();
            call(name, arguments);
        };
    }

    // ---- calls that change nothing ----

    private static List<String> before = new ArrayList<>();
    private static Scene place = () -> { };

    private static void at(String title, Scene played) {
        Bench.begin(title);
        place = played;
        before = seen(place, true, true);
    }

    /** A call with an answer, behind which all is as it was. */
    private static void leaves(Object answer, String name, Object... arguments) {
        begin(place);
        due(answer, name, arguments);
        same("all behind " + name + Arrays.toString(arguments), seen(with(place, name, arguments), true, true), before);
    }

    private static void throwing() {
        at("what throws changes nothing", UnchangedTest::midway);
        leaves(RANGE, "truncate", -1);
        leaves(RANGE, "truncate", 15);
        leaves(RANGE, "size", 16);
        leaves(INDEX, "link", 2, 0);
        leaves(RANGE, "link", 0, 9);
        leaves(INDEX, "datagram", 4, 0);
        leaves(RANGE, "datagram", 0, 9);
        leaves(INDEX, "packet", 99, 0);
        leaves(RANGE, "heap", 0, 7);
        leaves(RANGE, "hole", 0, 0, 2);
        leaves(INDEX, "pieces", 1, 2);
        leaves(RANGE, "burden", 1001);
        leaves(RANGE, "bestLong", 3001);
        leaves(RANGE, "fills", 0, 1001, 1);
        leaves(INDEX, "handedIn", 4);
        leaves(RANGE, "pathIn", 601);
        leaves(RANGE, "handedBy", 0, 0);
        leaves(RANGE, "handedBy", 1, 3);
        leaves(RANGE, "send", 1001, 0, true);
        leaves(RANGE, "send", 1, 256, true);
        leaves(INDEX, "again", 4);
        leaves(RANGE, "probe", 27);
        leaves(INDEX, "forge", 4, 0, 8, 0, true);
        leaves(RANGE, "forge", 0, 4, 8, 0, true);
        leaves(RANGE, "forge", 0, 0, 201, 0, true);
        leaves(RANGE, "forge", 0, 0, 8, 256, true);
        leaves(INDEX, "setSize", 2, 100);
        leaves(RANGE, "setSize", 0, 27);
        leaves(INDEX, "setEvery", 2, 1);
        leaves(RANGE, "setEvery", 0, 100);
        leaves(RANGE, "setLife", 201);
        leaves(RANGE, "setPolicy", 3);
        leaves(RANGE, "pass", 0);
        leaves(RANGE, "pass", 501);
        leaves(INDEX, "writeHeap", 4);
        at("what throws on a new object changes nothing", UnchangedTest::nothing);
        leaves(STATE, "restore");
        leaves(-1, "undo");
        leaves(RANGE, "truncate", 1);
        leaves(INDEX, "packet", 0, 0);
    }

    private static void refused() {
        at("what is refused changes nothing", UnchangedTest::midway);
        leaves(-2, "again", 2);
        at("what is refused or throws where all is full changes nothing", UnchangedTest::full);
        leaves(-1, "send", 1, 0, true);
        leaves(-1, "send", 1000, 255, false);
        leaves(-2, "again", 4);
        leaves(STATE, "append", 1, 2, 3, 4, 5);
        leaves(RANGE, "truncate", 501);
        at("a refused pass changes nothing", UnchangedTest::late);
        leaves(-3, "pass", 2);
        leaves(-3, "pass", 500);
    }

    private static void looking() {
        at("what only looks changes nothing", UnchangedTest::midway);
        for (Object[] asked : LOOKS) {
            String name = (String) asked[0];
            Object[] arguments = Arrays.copyOfRange(asked, 1, asked.length);
            begin(place);
            leaves(call(name, arguments), name, arguments);
        }
        at("what only looks beyond 9999 changes nothing", UnchangedTest::late);
        leaves(1, "handedIn", 0);
        leaves(1, "quietIn");
        leaves(576, "pathIn", 600);
        leaves(1, "handedBy", 1, 0);
    }

    // ---- texts with an error ----

    /** Orders or a description with an error: nothing but the buffer and the results of the error changes. */
    private static void badTexts() {
        Bench.begin("a text with an error changes nothing but the buffer and the error");
        for (Scene played : new Scene[] {UnchangedTest::midway, UnchangedTest::full, UnchangedTest::late}) {
            List<String> due = seen(played, false, true);
            for (String text : new String[] {"link 28 1 0;", "send 5 5;pass 1", "link 28 1 0;link 1 1 1", ""}) {
                List<String> got = seen(() -> {
                    played.play();
                    call("truncate", 0);
                    type(text);
                    due(RANGE, "readText");
                }, false, true);
                same("all behind the text " + text, got, due);
            }
            for (String text : new String[] {"send 5 5;pass 1", "pass 1;pass 0;", "pass 1;".repeat(31), ";"}) {
                List<String> got = seen(() -> {
                    played.play();
                    call("truncate", 0);
                    type(text);
                    due(RANGE, "runOrders");
                }, false, true);
                same("all behind the orders " + text, got, due);
            }
        }
    }

    // ---- changes ----

    private static void takenBack() {
        Bench.begin("a change that is taken back leaves all as it was");
        place = UnchangedTest::midway;
        before = seen(place, true, true);
        for (Object[] change : CHANGES) {
            Scene back = with(done(place, change), "undo");
            same("all behind undo of " + Arrays.toString(change), seen(back, true, true), before);
        }
        Bench.begin("orders that are taken back leave all but the texts as it was");
        before = seen(place, false, true);
        for (String orders : new String[] {"", "again 2;", "send 9 9;probe 90;every 0 1;pass 70;forge 0 0 1 1;"}) {
            Scene back = with(ordered(place, orders), "undo");
            same("all behind undo of " + orders, seen(back, false, true), before);
        }
        Bench.begin("accounts are taken back");
        place = UnchangedTest::busy;
        before = seen(place, true, true);
        for (Object[] change : new Object[][] {{"send", 900, 7, false}, {"pass", 5}, {"probe", 29}, {"pass", 70}}) {
            Scene back = with(done(place, change), "undo");
            same("all behind undo of " + Arrays.toString(change), seen(back, true, true), before);
        }
        Bench.begin("eight changes that are taken back leave all as it was");
        Scene told = () -> read(ROW);
        before = seen(told, true, true);
        Scene eight = () -> {
            read(ROW);
            for (int i = 0; i < 8; i++) {
                Object[] change = CHANGES[i + 1];
                go((String) change[0], Arrays.copyOfRange(change, 1, change.length));
            }
            for (int i = 7; i >= 0; i--) {
                due(i, "undo");
            }
        };
        same("all behind eight times undo", seen(eight, true, true), before);
    }

    private static Scene done(Scene played, Object[] change) {
        return () -> {
            played.play();
            go((String) change[0], Arrays.copyOfRange(change, 1, change.length));
        };
    }

    private static Scene ordered(Scene played, String orders) {
        return () -> {
            played.play();
            call("truncate", 0);
            type(orders);
            go("runOrders");
        };
    }

    private static void doneAnew() {
        Bench.begin("a change that is taken back and done again is as if done once");
        place = UnchangedTest::midway;
        for (Object[] change : CHANGES) {
            List<String> once = seen(done(place, change), true, true);
            List<String> twice = seen(done(with(done(place, change), "undo"), change), true, true);
            same("all behind " + Arrays.toString(change), twice, once);
        }
    }

    private static void ordersAsCalls() {
        Bench.begin("orders are the methods");
        place = UnchangedTest::midway;
        for (int i = 0; i < ORDERS.length; i++) {
            List<String> called = seen(done(place, CHANGES[i]), false, false);
            List<String> told = seen(ordered(place, ORDERS[i]), false, false);
            same("all behind " + ORDERS[i], told, called);
        }
    }

    private static void ordersThatEnd() {
        Bench.begin("the orders ahead of one that ends them stay done, no other one is done");
        place = UnchangedTest::midway;
        List<String> two = seen(ordered(place, "send 60 6;pass 3;"), false, true);
        for (String end : new String[] {"again 2;", "again 39;", "forge 39 0 1 1;", "size 5 28;", "every 2 0;"}) {
            List<String> got = seen(ordered(place, "send 60 6;pass 3;" + end + "pass 9;probe 28;"), false, true);
            same("all behind " + end, got, two);
        }
        place = UnchangedTest::late;
        two = seen(ordered(place, "send 60 6;pass 1;"), false, true);
        same("all behind pass", seen(ordered(place, "send 60 6;pass 1;pass 1;probe 28;"), false, true), two);
        place = UnchangedTest::full;
        two = seen(ordered(place, "pass 1;"), false, true);
        same("all behind send", seen(ordered(place, "pass 1;send 1 1;pass 1;"), false, true), two);
    }

    // ---- what begins anew ----

    private static void readAnew() {
        Bench.begin("a description begins anew, whatever was there");
        String text = "link 90 3 2;link 50 1 0;send 300 9;policy 2;send 100 8 firm";
        List<String> due = stateOf(() -> read(text));
        for (Scene played : new Scene[] {UnchangedTest::midway, UnchangedTest::full, UnchangedTest::late,
                UnchangedTest::busy}) {
            List<String> got = stateOf(() -> {
                played.play();
                call("truncate", 0);
                read(text);
            });
            same("all behind a new text", got, due);
        }
        Bench.begin("nothing is on its way but what the text sends");
        busy();
        due(6, "link", 1, 4);
        go("pass", 2);
        // six of them were on the link 1 ahead of that
        due(294, "link", 1, 4);
        read("link 28 1 0;link 60 1 0");
        row("account", 0, 0, 0, 0, 0, 0, 0, 0, 0, 0, 0, 0);
        row("size", 2, 0, 0, 60, 0, 28, 27, -1, 0, 0, 0, 0, 0, 0, 0, 0);
        due(0, "pass", 20);
        row("account", 0, 0, 0, 0, 0, 0, 0, 0, 0, 0, 0, 0);
        due(0, "gap");
        due(0, "quietIn");
        Bench.begin("a new object is as by its text");
        same("a new object", stateOf(UnchangedTest::nothing), stateOf(() -> read("link 576 1 0")));
    }

    private static List<String> stateOf(Scene played) {
        answers = new ArrayList<>();
        begin(played);
        askState(0);
        askForetold();
        return answers;
    }

    private static void restored() {
        Bench.begin("what was saved comes back whole, and stays");
        Scene told = () -> {
            read(ROW);
            run(9, "pass 5;forge 0 8 8 9 more;probe 70;pass 3;size 1 50;send 90 1 firm;every 0 2;pass 1;probe 28;");
        };
        Scene kept = () -> {
            told.play();
            due(9, "save");
            due(9, "restore");
        };
        List<String> due = seen(kept, true, true);
        Scene changed = () -> {
            told.play();
            go("save");
            for (Object[] change : CHANGES) {
                call((String) change[0], Arrays.copyOfRange(change, 1, change.length));
            }
            due(9, "restore");
        };
        same("all behind restore", seen(changed, true, true), due);
        Scene twice = () -> {
            changed.play();
            go("pass", 300);
            read("link 28 1 1;send 1000 1;send 1 1;send 1 1;send 1 1;send 1 1");
            due(9, "restore");
        };
        same("all behind restore, restored twice", seen(twice, true, true), due);
        due = seen(() -> {
            busy();
            due(6, "save");
            due(6, "restore");
        }, true, true);
        Scene other = () -> {
            busy();
            due(6, "save");
            read("link 90 1 0;link 90 1 0;link 90 1 0;send 300 1;send 300 1");
            go("pass", 1);
            due(6, "restore");
        };
        same("all behind restore of what was busy", seen(other, true, true), due);
        Bench.begin("a heap of one byte comes back");
        read("link 1500 50 0;policy 1;send 900 0");
        due(1, "forge", 0, 0, 1, 5, true);
        go("save");
        due(1, "forge", 0, 0, 1, 9, true);
        due(9, "heapByte", 0, 0);
        due(1, "undo");
        due(5, "heapByte", 0, 0);
        due(1, "forge", 0, 0, 1, 9, true);
        due(0, "restore");
        due(5, "heapByte", 0, 0);
    }

    private static void keptTexts() {
        Bench.begin("texts, errors and what was saved stay behind undo, save, restore and readText");
        Scene told = () -> {
            go("setLife", 9);
            go("save");
            go("writePath");
            type("pass 1;pass 9999;");
            due(RANGE, "runOrders");
            type("pass 2;");
        };
        for (String name : new String[] {"undo", "save", "restore"}) {
            begin(with(told, name));
            due(2, "errorCode");
            due(12, "errorPosition");
            due((int) '5', "outputByte", 0);
            due(-1, "outputByte", 5);
            due(7, "truncate", 7);
            due(RANGE, "truncate", 8);
            due(1, "runOrders");
            due(2, "size", 2);
            due(0, "restore");
            // undo takes setLife back, but not what was saved
            due(9, "size", 3);
        }
        begin(told);
        go("truncate", 0);
        read("link 28 1 0");
        due((int) '5', "outputByte", 0);
        due(0, "errorCode");
        due(0, "restore");
        due(9, "size", 3);
        due(576, "size", 5);
    }
}
