import java.util.ArrayList;
import java.util.List;

/** Where the errors of texts are, and which of several errors, exceptions and refusals comes first. */
public final class ErrorsTest extends Bench {
    private static final String ONE = "link 28 1 0;";

    private ErrorsTest() { }

    public static void main(String[] args) {
        exceptions();
        exceptionsAheadOfRefusals();
        noError();
        spaces();
        runsOfSigns();
        letters();
        firstStatement();
        places();
        endings();
        longNumbers();
        firstOfSeveral();
        secondWords();
        tooMany();
        ordersPlaces();
        ordersEndings();
        ordersTooMany();
        ordersEnding();
        latestError();
        end("errors are where they are due");
    }

    // ---- exceptions ----

    private static void exceptions() {
        begin("of several exceptions the one that is named first");
        read("link 28 1 0;send 8 1;send 8 2");
        go("forge", 0, 0, 1, 0, true);
        for (int index : new int[] {-1, 2, 99}) {
            due(INDEX, "link", index, -1);
            due(INDEX, "link", index, 9);
            due(INDEX, "datagram", index, -1);
            due(INDEX, "datagram", index, 9);
            due(INDEX, "packet", index, -1);
            due(INDEX, "packet", index, 7);
            due(INDEX, "heap", index, 7);
            due(INDEX, "hole", index, 0, 2);
            due(INDEX, "hole", index, -1, -1);
            due(INDEX, "pieces", 0, index);
            due(INDEX, "pieces", 1001, index);
            due(INDEX, "fills", index, -1, 1);
            due(INDEX, "fills", index, 0, 0);
            due(INDEX, "fills", index, 1001, 1001);
            due(INDEX, "forge", index, 1, 1, 0, true);
            due(INDEX, "forge", index, 0, 201, 0, true);
            due(INDEX, "forge", index, 0, 1, 256, true);
            due(INDEX, "setSize", index, 27);
            due(INDEX, "setEvery", index, 100);
        }
        // the index alone, and the number alone
        due(INDEX, "setEvery", 1, 0);
        due(RANGE, "setEvery", 0, 100);
        due(INDEX, "packet", 2, 0);
        due(RANGE, "packet", 1, 7);
        // what there is not is NONE, but a wrong number comes ahead of that
        due(-1, "heap", 1, 6);
        due(RANGE, "heap", 1, 7);
        due(-1, "hole", 1, 0, 1);
        due(RANGE, "hole", 1, 0, 2);
        due(-1, "hole", 0, 9, 1);
        due(RANGE, "hole", 0, 9, 2);
        due(false, "fills", 1, 1000, 1000);
        due(RANGE, "fills", 1, 1001, 1000);
        due(RANGE, "fills", 1, 1000, 1001);
        due(1, "size", 15);
    }

    private static void exceptionsAheadOfRefusals() {
        begin("exceptions come before refusals");
        read("link 28 1 0" + ";send 1 1".repeat(40));
        due(-1, "send", 1, 0, true);
        due(RANGE, "send", 0, 0, true);
        due(RANGE, "send", 1001, 0, true);
        due(RANGE, "send", 1, -1, true);
        due(RANGE, "send", 1, 256, true);
        due(40, "pass", 1);
        due(-2, "again", 39);
        due(INDEX, "again", 40);
        for (int i = 0; i < 19; i++) {
            go("pass", 500);
        }
        go("pass", 498);
        due(9999, "size", 2);
        due(-3, "pass", 1);
        due(-3, "pass", 500);
        due(RANGE, "pass", 0);
        due(RANGE, "pass", 501);
        due(RANGE, "pass", Integer.MAX_VALUE);
        due(-1, "send", 1, 0, true);
        due(-2, "again", 0);
        run(0, "pass 1;");
        badOrders(2, 5, "pass 0;");
        badOrders(2, 5, "pass 501;");
    }

    // ---- descriptions ----

    private static void good(int links, int datagrams, String text) {
        fresh();
        type(text);
        due(datagrams, "readText");
        due(links, "size", 0);
        due(0, "errorCode");
        due(-1, "errorPosition");
    }

    private static void noError() {
        begin("a list of one or more statements");
        good(1, 0, "link 28 1 0");
        good(2, 0, "link 28 1 0;link 28 1 0");
        good(2, 2, "link 28 1 0;send 1 2;link 28 1 0;policy 0;send 3 4 firm;life 9");
        good(2, 0, "link 28 1 0;life 9;policy 1;link 29 2 1");
        // by words and life that come behind them: all links are there ahead of the first send
        read("link 100 1 0;send 80 1 firm;life 7;send 100 2;link 50 1 0");
        row("size", 2, 2, 0, 7, 0, 100, 27, -1, 3);
        rowOf("datagram", 0, 80, 1, 1, 1, 0);
        rowOf("datagram", 1, 100, 2, 0, 1, 0);
    }

    private static void spaces() {
        begin("spaces may stand before and after words, numbers and semicolons");
        good(1, 0, "link28 1 0");
        good(2, 0, "link28 1 0;link29 1 0");
        good(2, 1, "  link  28  1  0  ;  link  29  1  0  ;  send  1  2  firm  ");
        good(1, 2, "link28 1 0;send1 2firm;send3 4");
        good(1, 1, "link28 1 0;life9;policy2;send1 0firm ");
        read("link28 1 0;send1 2firm;send3 4");
        due(1, "datagram", 0, 2);
        due(0, "datagram", 1, 2);
        badText(1, 0, "li nk 28 1 0");
        badText(2, 5, "link 2 8 1 0");
        badText(1, 11, "link 28 1 0\t;life 1");
        badText(1, 4, "link\t28 1 0");
        badText(1, 4, "link\n28 1 0");
        badText(1, 4, "link\00028 1 0");
        badText(1, 4, "link\u00a028 1 0");
    }

    private static void runsOfSigns() {
        begin("words are maximal runs of lower-case letters, numbers maximal runs of digits");
        badText(1, 0, "linklink 28 1 0");
        badText(1, 0, "linkx 28 1 0");
        badText(1, 0, "lin 28 1 0");
        badText(1, 0, "Link 28 1 0");
        badText(1, 4, "linkK 28 1 0");
        badText(1, 0, "linK 28 1 0");
        badText(1, 20, ONE + "send 1 2firmx");
        badText(1, 20, ONE + "send 1 2fir");
        badText(1, 21, ONE + "send 1 2 more");
        badText(1, 25, ONE + "send 1 2 firm0");
        badText(1, 25, ONE + "send 1 2 firmF");
        badText(1, 7, "link 28x 1 0");
        badText(1, 8, "link 28 x 0");
        badText(1, 7, "link 28.1 0");
        badText(1, 5, "link +28 1 0");
        badText(1, 5, "link `28 1 0");
        badText(1, 5, "link {28 1 0");
        badText(1, 5, "link /28 1 0");
        badText(1, 5, "link :28 1 0");
    }

    /** A word with another letter, with one less or one more is another word. */
    private static void letters() {
        begin("words are those of the document");
        String[] texts = {"link 28 1 0", "life 1", "policy 1", "send 1 1", "send 1 1 firm"};
        for (String statement : texts) {
            String ahead = statement.startsWith("link") ? "" : ONE;
            int from = statement.endsWith("firm") ? 9 : 0;
            for (String wrong : spelled(statement, from)) {
                badText(1, ahead.length() + from, ahead + wrong);
            }
        }
        String[] orders = {"send 1 1", "send 1 1 firm", "again 0", "probe 28", "forge 0 0 1 1", "forge 0 0 1 1 more",
            "size 0 28", "every 0 1", "pass 1"};
        for (String statement : orders) {
            fresh();
            int from = statement.endsWith("more") ? 14 : statement.endsWith("firm") ? 9 : 0;
            for (String wrong : spelled(statement, from)) {
                badOrders(1, from, wrong + ";");
            }
        }
    }

    private static List<String> spelled(String statement, int from) {
        List<String> all = new ArrayList<>();
        int to = from;
        while (to < statement.length() && statement.charAt(to) != ' ') {
            String ahead = statement.substring(0, to);
            String behind = statement.substring(to + 1);
            all.add(ahead + (statement.charAt(to) == 'z' ? 'a' : 'z') + behind);
            all.add(ahead + (char) (statement.charAt(to) + 1) + behind);
            all.add(ahead + (char) (statement.charAt(to) - 32) + behind);
            all.add(ahead + behind);
            to++;
        }
        all.add(statement.substring(0, from) + "z" + statement.substring(from));
        all.add(statement.substring(0, to) + "z" + statement.substring(to));
        return all;
    }

    private static void firstStatement() {
        begin("the first statement is a link");
        for (String other : new String[] {"life 1", "policy 1", "send 1 1", "life", "pass 1", "x", "5", ";", ""}) {
            badText(1, 0, other);
            badText(1, 2, "  " + other);
        }
        badText(1, 0, "send 1 1;link 28 1 0");
    }

    private static void places() {
        begin("a byte, word or number cannot stand at its place");
        badText(1, 5, "link ;");
        badText(1, 5, "link firm 1 0");
        badText(1, 8, "link 28 ;");
        badText(1, 8, "link 28 link 1 0");
        badText(1, 12, "link 28 1 0 1");
        badText(1, 12, "link 28 1 0 link");
        badText(1, 12, "link 28 1 0 firm");
        badText(1, 11, "link 28 1 0,");
        badText(1, 12, ONE + ";");
        badText(1, 12, ONE + "5");
        badText(1, 12, ONE + "firm");
        badText(1, 12, ONE + "lifelong 5");
        badText(1, 12, ONE + "again 0");
        badText(1, 12, ONE + "probe 28");
        badText(1, 12, ONE + "forge 0 0 1 1");
        badText(1, 12, ONE + "size 0 28");
        badText(1, 12, ONE + "every 0 1");
        badText(1, 12, ONE + "pass 1");
        badText(1, 17, ONE + "life life");
        badText(1, 19, ONE + "life 5 5");
        badText(1, 18, ONE + "life 5firm");
        badText(1, 21, ONE + "policy 1 1");
        badText(1, 19, ONE + "send 1 firm");
        badText(1, 21, ONE + "send 1 2 3");
        badText(1, 26, ONE + "send 1 2 firm firm");
        badText(1, 26, ONE + "send 1 2 firm 3");
        badText(1, 26, ONE + "send 1 2 firm ,");
        badText(1, 21, ONE + "send 1 2 \u00e4");
    }

    private static void endings() {
        begin("the text ends too early: its length");
        badText(1, 0, "");
        badText(1, 1, " ");
        badText(1, 4, "link");
        badText(1, 6, "link  ");
        badText(1, 7, "link 28");
        badText(1, 8, "link 28 ");
        badText(1, 9, "link 28 1");
        badText(1, 11, "link 28 1  ");
        badText(1, 12, ONE);
        badText(1, 14, ONE + "  ");
        badText(1, 16, ONE + "life");
        badText(1, 18, ONE + "policy");
        badText(1, 16, ONE + "send");
        badText(1, 18, ONE + "send 1");
        badText(1, 21, ONE + "send 1 2;");
        badText(1, 26, ONE + "send 1 2 firm;");
        // a word that is cut short is another word
        badText(1, 0, "lin");
        badText(1, 12, ONE + "lif");
        badText(1, 21, ONE + "send 1 2 f");
    }

    private static void longNumbers() {
        begin("numbers have at most 4 digits, zeros ahead count");
        good(1, 0, "link 0028 0001 0000");
        good(1, 1, "link 1500 0050 0099;send 1000 0255");
        badText(1, 5, "link 00028 1 0");
        badText(1, 8, "link 28 00001 0");
        badText(1, 10, "link 28 1 00000");
        badText(1, 5, "link 10000 1 0");
        badText(1, 5, "link 99999999999999999999 1 0");
        badText(1, 17, ONE + "life 00060");
        badText(1, 19, ONE + "policy 00000");
        badText(1, 17, ONE + "send 01000 1");
        badText(1, 19, ONE + "send 1 00001");
        badText(2, 5, "link 9999 1 0");
        badText(2, 5, "link 0000 1 0");
    }

    private static void firstOfSeveral() {
        begin("the first error ends the text");
        badText(2, 5, "link 27 0 100");
        badText(2, 5, "link 27 x");
        badText(2, 5, "link 27");
        badText(2, 8, "link 28 0");
        badText(2, 10, "link 28 1 100 5");
        badText(2, 10, "link 28 1 100x");
        badText(1, 7, "link 28x0 100");
        badText(2, 17, ONE + "life 0;life 1");
        badText(2, 17, ONE + "send 0 256");
        badText(2, 19, ONE + "send 1 256firmx");
        badText(1, 18, ONE + "life 5,life 1");
        badText(1, 12, ONE + "lifes 0;life");
        begin("of several errors at one place the one with the smaller number");
        // too long, and out of its range
        badText(1, 5, "link 99999 1 0");
        badText(1, 8, "link 28 00000 0");
        badText(1, 17, ONE + "life 00000");
    }

    private static void secondWords() {
        begin("the word life or policy may stand once");
        good(1, 0, ONE + "life 1;policy 1");
        good(1, 0, ONE + "policy 1;life 1");
        badText(3, 19, ONE + "life 1;life 1");
        badText(3, 20, ONE + "life 1; life 1");
        badText(3, 21, ONE + "policy 1;policy 1");
        badText(3, 28, ONE + "policy 1;life 1;policy 1");
        badText(3, 28, ONE + "life 1;policy 1;life 1");
        // found ahead of all that follows
        badText(3, 19, ONE + "life 1;life");
        badText(3, 19, ONE + "life 1;life 0");
        badText(3, 19, ONE + "life 1;life x");
        badText(3, 19, ONE + "life 1;life99999");
        badText(1, 19, ONE + "life 1;lifelife");
        badText(1, 19, ONE + "life 1;lif");
        badText(3, 21, ONE + "policy 2;policy;");
    }

    private static void tooMany() {
        begin("a seventh link or a 41st send");
        String six = "link 28 1 0" + ";link 28 1 0".repeat(5);
        good(6, 0, six);
        badText(4, 72, six + ";link 28 1 0");
        badText(4, 73, six + "; link 28 1 0");
        badText(4, 72, six + ";link");
        badText(4, 72, six + ";link 0");
        badText(4, 72, six + ";link x");
        badText(1, 72, six + ";linkx");
        badText(4, 79, six + ";life 1;link");
        badText(4, 81, six + ";send 1 1;link");
        String forty = ONE + "send 1 1;".repeat(39) + "send 1 1";
        good(1, 40, forty);
        badText(4, 372, forty + ";send 1 1");
        badText(4, 372, forty + ";send");
        badText(4, 372, forty + ";send 0");
        badText(1, 372, forty + ";sends 1 1");
        good(2, 40, forty + ";link 28 1 0");
        good(1, 40, forty + ";life 1");
        badText(4, 379, forty + ";life 1;send 1 1");
    }

    // ---- orders ----

    private static void ordersPlaces() {
        begin("each order is followed by a semicolon; their tokens are those of descriptions");
        read("link 500 1 0;send 9 1");
        run(9, "send1 2;send 1 2firm ; again0;probe 28 ;forge0 0 1 1more;forge 0 0 2 1 more ;size0 400;every0 9;pass1;");
        run(2, "  pass 1  ;  pass 1  ;  ");
        badOrders(1, 0, ";");
        badOrders(1, 0, "5;");
        badOrders(1, 0, "x;");
        badOrders(1, 0, "Pass 1;");
        badOrders(1, 0, "passpass 1;");
        badOrders(1, 0, "link 28 1 0;");
        badOrders(1, 0, "life 1;");
        badOrders(1, 0, "policy 1;");
        badOrders(1, 0, "firm;");
        badOrders(1, 0, "more;");
        badOrders(1, 5, "pass ;");
        badOrders(1, 5, "pass x;");
        badOrders(1, 7, "pass 1 1;");
        badOrders(1, 6, "pass 1more;");
        badOrders(1, 6, "pass 1,");
        badOrders(1, 9, "send 1 2 more;");
        badOrders(1, 14, "send 1 2 firm firm;");
        badOrders(1, 14, "forge 0 0 1 1 firm;");
        badOrders(1, 19, "forge 0 0 1 1 more more;");
        badOrders(1, 12, "forge 0 0 1 more;");
        badOrders(1, 7, "size 0 x;");
        badOrders(1, 8, "again 0 firm;");
        badOrders(1, 7, "pass 1;;");
        badOrders(1, 9, "pass 1;  ;pass 1;");
        due(2, "size", 15);
    }

    private static void ordersEndings() {
        begin("orders that end too early: their length");
        badOrders(1, 4, "pass");
        badOrders(1, 6, "pass 1");
        badOrders(1, 8, "pass 1  ");
        badOrders(1, 13, "pass 1;pass 1");
        badOrders(1, 8, "send 1 2");
        badOrders(1, 13, "send 1 2 firm");
        badOrders(1, 13, "forge 0 0 1 1");
        badOrders(1, 18, "forge 0 0 1 1 more");
        badOrders(1, 11, "forge 0 0 1");
        badOrders(1, 0, "pas");
        due(0, "size", 2);
        due(0, "size", 15);
    }

    private static void ordersTooMany() {
        begin("a 31st statement is found ahead of all that follows");
        String thirty = "pass 1;".repeat(30);
        badOrders(4, 210, thirty + "pass");
        badOrders(4, 210, thirty + "pass 0;");
        badOrders(4, 211, thirty + " send x");
        badOrders(1, 210, thirty + "passs 1;");
        badOrders(1, 210, thirty + "1");
        badOrders(1, 210, thirty + ";");
        badOrders(2, 5, "pass 0;" + thirty);
        badOrders(1, 209, thirty.substring(0, 209) + "x");
        badOrders(1, 5, "pass 00001;");
        badOrders(2, 6, "again 40;again");
        badOrders(2, 8, "forge 0 4 0 256 firm;");
        badOrders(2, 10, "forge 0 8 0 256 firm;");
        badOrders(2, 12, "forge 0 8 1 256 firm;");
        badOrders(1, 8, "forge 0 00004 1 1;");
        due(0, "size", 15);
        run(30, thirty);
    }

    /** The first order whose method would throw or refuse ends them; those ahead stay done. */
    private static void ordersEnding() {
        begin("the first order that would throw or be refused ends the orders");
        read("link 500 1 0;send 9 1;send 9 1");
        run(1, "pass 1;again 0;pass 1;");
        run(1, "pass 1;again 2;pass 1;");
        run(1, "pass 1;forge 2 0 1 1;pass 1;");
        run(1, "pass 1;size 1 28;pass 1;");
        run(1, "pass 1;every 1 28;pass 1;");
        due(5, "size", 2);
        // a forged piece that is a stray, and a probe that is dropped, are no refusals
        run(3, "forge 0 0 1 1;probe 501;pass 1;");
        row("account", 2, 0, 0, 0, 1, 3, 1);
        due(6, "size", 2);
        run(0, "again 39;pass 1;");
        due(6, "size", 2);
        due(7, "size", 15);
        due(6, "undo");
        for (int i = 0; i < 19; i++) {
            go("pass", 500);
        }
        run(1, "pass 490;pass 4;pass 3;");
        due(9996, "size", 2);
        run(2, "pass 3;probe 28;pass 1;probe 28;");
        due(9999, "size", 2);
        due(1, "size", 8);
    }

    private static void latestError() {
        begin("the error of the latest reading");
        due(0, "errorCode");
        due(-1, "errorPosition");
        type("link 28 1 0;life 1;life");
        due(RANGE, "readText");
        due(3, "errorCode");
        due(19, "errorPosition");
        go("pass", 1);
        go("undo");
        go("save");
        go("restore");
        due(RANGE, "truncate", 1);
        due(RANGE, "probe", 0);
        due(3, "errorCode");
        due(19, "errorPosition");
        run(1, "pass 1;");
        badOrders(2, 5, "pass 0;");
        run(0, "again 0;");
        badOrders(4, 210, "pass 1;".repeat(31));
        type("link 28 1 0");
        due(0, "readText");
        due(0, "errorCode");
        due(-1, "errorPosition");
    }
}
