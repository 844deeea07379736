/** The empty and the full of all that has a bound, and what wraps around. */
public final class FullTest extends Bench {
    private static final String ONE_LINK = "link 1500 50 0";

    private FullTest() { }

    public static void main(String[] args) {
        emptyInput();
        fullInput();
        fullTexts();
        outputText();
        longestOutput();
        links();
        noDatagram();
        datagrams();
        noPacket();
        packets();
        packetsOfANewObject();
        packetsComingAndGoing();
        packetsOfAllLinks();
        packetsInTick();
        crowdedOrLost();
        notes();
        heaps();
        heapsGoingFirst();
        heapsStaying();
        heapsUsedAnew();
        orders();
        backs();
        backsBegunAnew();
        backsRound();
        bytesRound();
        countsRound();
        saved();
        end("the empty and the full hold");
    }

    // ---- the input buffer and the output text ----

    private static void emptyInput() {
        begin("the input buffer is empty at first and behind each reading");
        due(RANGE, "truncate", 1);
        due(0, "truncate", 0);
        due(0, "runOrders");
        due(RANGE, "readText");
        due(1, "errorCode");
        due(0, "errorPosition");
        due(20, "append", 0, 0, 0, 0, 0);
        due(RANGE, "readText");
        due(20, "append", 0, 0, 0, 0, 0);
        due(RANGE, "runOrders");
        due(RANGE, "truncate", 1);
        run(1, "pass 1;");
        due(RANGE, "truncate", 1);
        read(ONE_LINK);
        due(RANGE, "truncate", 1);
        due(20, "append", 0, 0, 0, 0, 0);
    }

    private static void fullInput() {
        begin("append throws if the buffer would exceed 500 bytes");
        for (int i = 1; i <= 25; i++) {
            due(20 * i, "append", 1, 1, 1, 1, 1);
        }
        due(STATE, "append", 1, 1, 1, 1, 1);
        due(500, "truncate", 500);
        due(RANGE, "truncate", 501);
        due(499, "truncate", 499);
        due(STATE, "append", 1, 1, 1, 1, 1);
        due(499, "truncate", 499);
        due(481, "truncate", 481);
        due(STATE, "append", 1, 1, 1, 1, 1);
        due(481, "truncate", 481);
        due(480, "truncate", 480);
        due(500, "append", 1, 1, 1, 1, 1);
        due(0, "truncate", 0);
        due(20, "append", 1, 1, 1, 1, 1);

        begin("what was refused is not in the buffer");
        type(ONE_LINK + ";life 9" + " ".repeat(460));
        due(481, "truncate", 481);
        due(STATE, "append", 0x3b3b3b3b, 0x3b3b3b3b, 0x3b3b3b3b, 0x3b3b3b3b, 0x3b3b3b3b);
        due(0, "readText");
        due(9, "size", 3);

        begin("truncate throws if it is negative or greater than the length now");
        type("link 28 1 0; link 29 1 0");
        due(RANGE, "truncate", -1);
        due(RANGE, "truncate", 25);
        due(RANGE, "truncate", Integer.MIN_VALUE);
        due(RANGE, "truncate", Integer.MAX_VALUE);
        due(24, "truncate", 24);
        due(11, "truncate", 11);
        due(RANGE, "truncate", 12);
        due(0, "readText");
        due(1, "size", 0);

        begin("bytes are put behind what is left");
        type("link 28 1 0xxxx");
        due(11, "truncate", 11);
        typeBehind(11, ";link 29 1 0");
        due(0, "readText");
        due(2, "size", 0);
        due(29, "link", 1, 0);
    }

    private static void fullTexts() {
        begin("a description of 500 bytes");
        String sends = ";send 1 1".repeat(40);
        String text = "link 28 1 0" + ";link 28 1 0".repeat(5) + ";life 200;policy 2" + sends;
        read(text + " ".repeat(MOST_INPUT - text.length()));
        row("size", 6, 40, 0, 200, 2, 28);
        read(" ".repeat(MOST_INPUT - text.length()) + text);
        row("size", 6, 40, 0, 200, 2, 28);
        badText(1, 500, text + " ".repeat(MOST_INPUT - 1 - text.length()) + ";");
        badText(1, 499, text + " ".repeat(MOST_INPUT - 1 - text.length()) + "x");
        badText(1, 500, " ".repeat(500));
        badText(1, 0, "x".repeat(500));
        badText(1, 0, "5".repeat(500));
        badText(1, 5, "link " + "5".repeat(495));
        begin("orders of 500 bytes");
        run(1, "pass 1" + " ".repeat(493) + ";");
        run(30, " ".repeat(290) + "pass 1;".repeat(30));
        badOrders(1, 500, "pass 1;" + " ".repeat(487) + "pass 1");
        badOrders(1, 499, "pass 1;" + " ".repeat(492) + ";");
        badOrders(1, 500, "pass 1;pass" + " ".repeat(489));
        due(31, "size", 2);
    }

    private static void outputText() {
        begin("the output text is empty at first; a new one stands in place of what it had");
        due(-1, "outputByte", 0);
        go("send", 9, 1, false);
        written("576*1", "writePath");
        written("x", "writeHeap", 0);
        go("pass", 1);
        written("576*0", "writePath");
        due(INDEX, "writeHeap", 1);
        due((int) '5', "outputByte", 0);
        read("link 28 1 0;link 29 50 0;link 30 1 0;link 31 1 0;link 32 1 0;link 1500 1 0");
        due((int) '5', "outputByte", 0);
        written("28*0>29*0>30*0>31*0>32*0>1500*0", "writePath");
        go("send", 1, 1, false);
        written("28*1>29*0>30*0>31*0>32*0>1500*0", "writePath");
    }

    private static void longestOutput() {
        begin("the heap with the most rows");
        read(ONE_LINK + ";send 1000 0");
        StringBuilder rows = new StringBuilder();
        for (int offset = 0; offset <= 992; offset += 8) {
            due(offset / 8 + 1, "forge", 0, offset, 1, 7, true);
            rows.append(offset > 0 ? "," : "").append(offset).append('-').append(offset);
        }
        String text = rows.append("/?").toString();
        due(text.length(), "writeHeap", 0);
        for (int i = 650; i < text.length(); i++) {
            due((int) text.charAt(i), "outputByte", i);
        }
        due(-1, "outputByte", text.length());
        // 124 holes between the rows, and one more that has no end
        due(125, "heap", 0, 3);
        due(985, "hole", 0, 123, 0);
        due(992, "hole", 0, 123, 1);
        due(993, "hole", 0, 124, 0);
        due(-1, "hole", 0, 124, 1);
        due(-1, "hole", 0, 125, 0);

        begin("known bytes behind 1000");
        read(ONE_LINK + ";send 1000 0");
        due(200, "forge", 0, 992, 200, 7, false);
        written("992-1191/1192", "writeHeap", 0);
        due(992, "missing", 0);
        rowOf("heap", 0, 0, 1192, 200, 1, 0, 1, 1192);
    }

    // ---- links and datagrams ----

    private static void links() {
        begin("a path of one link, and of six");
        due(1, "size", 0);
        due(576, "link", 0, 0);
        due(INDEX, "link", 1, 0);
        String six = "link 28 1 0;link 29 2 0;link 30 3 0;link 31 4 0;link 32 5 0;link 33 6 7";
        read(six);
        due(6, "size", 0);
        rowOf("link", 5, 33, 6, 7, 0);
        due(INDEX, "link", 6, 0);
        due(21, "wholeDelay");
        due(28, "narrowest");
        badText(4, six.length() + 1, six + ";link 34 7 0");
        due(1, "size", 0);
        badText(1, six.length() + 1, six + ";lin 34 7 0");
        badText(3, six.length() + 8, six + ";life 1;life 2;link 34 7 0");
        badText(4, six.length() + 8, six + ";life 1;link 34 7 0");
    }

    private static void noDatagram() {
        begin("without any datagram");
        due(0, "size", 1);
        for (String name : new String[] {"handedIn", "endIn", "missing", "again", "writeHeap"}) {
            due(INDEX, name, 0);
            due(INDEX, name, -1);
        }
        due(INDEX, "datagram", 0, 0);
        due(INDEX, "heap", 0, 0);
        due(INDEX, "ownByte", 0, 0);
        due(INDEX, "heapByte", 0, 0);
        due(INDEX, "hole", 0, 0, 0);
        due(INDEX, "fills", 0, 0, 1);
        due(INDEX, "forge", 0, 0, 1, 0, true);
        due(0.0f, "trueShare");
        due(0.0, "meanTries");
        due(0, "handedBy", 1, 0);
        due(0, "size", 15);
        run(0, "again 0;send 1 1;");
        run(0, "forge 0 0 1 1;send 1 1;");
        due(0, "size", 1);
        read(ONE_LINK);
        due(0, "size", 1);
        due(INDEX, "datagram", 0, 0);
    }

    private static void datagrams() {
        begin("at most 40 datagrams");
        for (int i = 0; i < 39; i++) {
            due(i, "send", 1, i, i % 2 == 1);
        }
        due(INDEX, "datagram", 39, 0);
        due(39, "send", 7, 200, true);
        due(7, "datagram", 39, 0);
        due(INDEX, "datagram", 40, 0);
        due(8, "size", 15);
        due(-1, "send", 1, 0, false);
        due(-1, "send", 1000, 255, true);
        due(40, "size", 1);
        due(40, "account", 0);
        due(8, "size", 15);
        run(0, "send 1 1;pass 1;");
        run(1, "pass 1;send 1 1;pass 1;");
        due(1, "size", 2);
        due(1.0, "meanTries");
        due(1.0f, "trueShare");
        // the last one is taken back, so that there is room
        for (int i = 0; i < 3; i++) {
            go("undo");
        }
        due(39, "size", 1);
        run(1, "send 1 1;send 1 1;pass 1;");
        due(40, "size", 1);

        begin("40 datagrams of a description");
        String text = "link 28 1 0" + ";send 1 1".repeat(40);
        type(text);
        due(40, "readText");
        due(40, "size", 12);
        due(1, "datagram", 39, 8);
        due(-1, "send", 1, 0, false);
        badText(4, text.length() + 1, text + ";send 0 999");
        badText(1, text.length() + 1, text + ";sen 1 1");
        badText(3, text.length() + 10, text + ";policy 0;policy 9");
        due(0, "size", 1);
    }

    // ---- packets on their way ----

    private static void noPacket() {
        begin("nothing is on its way");
        due(INDEX, "packet", 0, 0);
        due(INDEX, "packet", -1, 9);
        due(0, "quietIn");
        due(0, "size", 8);
        due(0, "link", 0, 4);
        due(0, "pass", 500);
        due(0, "gap");
        go("probe", 28);
        due(28, "packet", 0, 4);
        due(INDEX, "packet", 1, 0);
        go("pass", 1);
        due(INDEX, "packet", 0, 0);
        due(1, "quietIn");
        go("pass", 1);
        due(0, "quietIn");
    }

    private static void packets() {
        begin("a packet is crowded out if 300 are on their way");
        read("link 28 50 0;send 1000 0;send 1000 1;send 384 2;send 8 3");
        // 125 + 125 + 48 pieces of 8 bytes, and one
        due(299, "size", 8);
        due(300, "probe", 28);
        due(0, "account", 2);
        due(28, "packet", 299, 4);
        due(INDEX, "packet", 300, 0);
        due(300, "probe", 28);
        due(1, "account", 2);
        due(301, "account", 0);
        due(301, "link", 0, 3);
        due(300, "link", 0, 4);
        due(4, "send", 9, 0, false);
        due(3, "account", 2);
        rowOf("datagram", 4, 9, 0, 0, 1, 0, 0, -1, 0, 0);
        due(-1, "handedIn", 4);
        due(50, "handedIn", 3);
        due(50, "handedIn", 2);
        due(0, "gap");
        written("28*300", "writePath");
        go("pass", 50);
        due(0, "size", 8);
        due(0, "gap");
        due(1, "probe", 28);

        begin("room for one packet more");
        read("link 28 50 0;send 1000 0;send 1000 1;send 392 2");
        due(299, "size", 8);
        go("send", 9, 0, false);
        due(300, "size", 8);
        due(1, "account", 2);
        rowOf("datagram", 3, 9, 0, 0, 1, 0, 0, -1, 0, 1);
        rowOf("packet", 299, 0, 50, 3, 0, 28, 1, 0);
    }

    private static void packetsOfANewObject() {
        begin("300 packets of a new object");
        go("setSize", 0, 28);
        for (int i = 0; i < 3; i++) {
            go("send", 1000, i, false);
        }
        row("account", 375, 0, 75);
        due(300, "size", 8);
        rowOf("packet", 299, 0, 1, 2, 49 * 8, 28, 1, 0);
        due(2, "pass", 1);
        due(0, "gap");
        due(0, "size", 8);
    }

    private static void packetsComingAndGoing() {
        begin("packets are put on a link that has some, and come from it in their order");
        read("link 500 3 0;link 500 4 0");
        for (int i = 0; i < 12; i++) {
            go("send", 9, i, false);
            go("pass", 1);
        }
        due(6, "size", 8);
        due(6, "size", 13);
        written("500*2>500*4", "writePath");
        // at 13 and 14 those of both links are at their next node, then two more of the link 1
        int[] order = {10, 6, 11, 7, 8, 9};
        for (int i = 0; i < order.length; i++) {
            due(order[i], "packet", i, 2);
        }
        for (int i = 12; i < 18; i++) {
            go("send", 9, i, false);
            due(1, "pass", 1);
            due(i + 1, "datagram", i - 6, 6);
            due(6, "size", 8);
        }
        due(6, "pass", 7);
        due(0, "gap");
    }

    /** Each sending of 300 pieces is dropped at a nearer node, so that all notes come at one TIME. */
    private static void notes() {
        begin("1500 notes and 300 answers are on their way at once");
        read("link 36 1 0;link 36 1 0;link 36 2 0;link 36 4 0;link 36 8 0;link 36 16 0");
        for (int i = 0; i < 10; i++) {
            run(30, "probe 28;".repeat(30));
        }
        due(300, "size", 8);
        due(0, "pass", 32);
        due(300, "size", 10);
        due(0, "send", 992, 0, true);
        for (int node = 5; node >= 1; node--) {
            go("setSize", node, 28);
            for (int i = node == 5 ? 1 : 0; i < 5; i++) {
                go("again", 0);
            }
            due(300, "size", 8);
            due((5 - node) * 300, "size", 9);
            go("pass", 1 << (node - 1));
        }
        row("size", 6, 1, 63, 60, 0, 36, 27, -1, 0, 1500, 300);
        due(1, "quietIn");
        due(28, "pathIn", 1);
        due(0, "pass", 1);
        row("size", 6, 1, 64, 60, 0, 28, 28, -1, 0, 0, 0);
        due(1500, "account", 8);
        due(300, "account", 9);
        due(50, "account", 2);
        due(25, "datagram", 0, 3);
        go("undo");
        row("size", 6, 1, 63, 60, 0, 36, 27, -1, 0, 1500, 300);
        due(0, "account", 8);
    }

    private static void packetsOfAllLinks() {
        begin("300 packets on all links together");
        read("link 28 3 0;link 28 50 0;send 1000 0;send 1000 1");
        due(250, "size", 8);
        go("pass", 3);
        due(0, "link", 0, 4);
        due(250, "link", 1, 4);
        due(2, "send", 400, 5, false);
        due(300, "size", 8);
        due(50, "link", 0, 4);
        due(0, "account", 2);
        due(300, "probe", 28);
        due(1, "account", 2);
        go("pass", 3);
        // as a packet is handed from link to link there is room for it
        due(300, "link", 1, 4);
        due(1, "account", 2);
        due(300, "probe", 28);
        go("pass", 47);
        due(50, "size", 8);
        due(51, "probe", 28);
    }

    private static void packetsInTick() {
        begin("in a tick the packets go one after the other");
        read("link 36 2 0;link 28 9 0;send 1000 0;send 1000 1;send 1000 2;send 1000 3;send 704 4");
        // four times 62 pieces of 16 bytes and one of 8 bytes; 44 pieces
        due(296, "size", 8);
        due(297, "probe", 28);
        due(298, "probe", 28);
        due(299, "probe", 28);
        due(300, "probe", 28);
        go("pass", 2);
        // each piece of 16 bytes is cut: one half goes in the place of both, the other is crowded out
        due(300, "size", 8);
        due(300, "link", 1, 4);
        due(292, "account", 2);
        due(296 + 4 + 292 * 2 + 4 + 4, "account", 0);
        rowOf("packet", 0, 1, 11, 0, 0, 28, 1, 0);
        rowOf("packet", 1, 1, 11, 0, 16, 28, 1, 0);
        due(0, "gap");
    }

    private static void crowdedOrLost() {
        begin("a packet that is lost is not crowded out");
        read("link 28 50 0;send 1000 0;send 1000 1;send 400 2");
        due(300, "size", 8);
        go("setEvery", 0, 7);
        // the 301st is divisible by 7, the 302nd is not
        go("probe", 28);
        row("account", 301, 1, 0);
        go("probe", 28);
        row("account", 302, 1, 1);
        due(300, "size", 8);
        due(0, "gap");
        due(1, "link", 0, 5);

        begin("a probe that is too wide is dropped, though there is no room");
        read("link 28 50 0;send 1000 0;send 1000 1;send 400 2");
        due(300, "probe", 29);
        row("account", 300, 0, 0, 3, 1);
        due(29, "size", 7);
    }

    // ---- heaps ----

    private static void heaps() {
        begin("at most 4 heaps");
        read(ONE_LINK + ";send 9 0;send 9 0;send 9 0;send 9 0;send 9 0");
        due(0, "size", 11);
        due(-1, "heap", 0, 0);
        written("x", "writeHeap", 0);
        for (int i = 0; i < 4; i++) {
            due(i, "size", 11);
            due(1, "forge", i, 0, 1, 0, true);
        }
        due(4, "size", 11);
        due(0, "size", 14);
        due(1, "forge", 4, 0, 1, 0, true);
        due(4, "size", 11);
        // all have like STARTs, so that of the lower datagram goes
        rowOf("datagram", 0, 9, 0, 0, 1, 0, 3, 0, 2, 1);
        due(-1, "heap", 0, 0);
        due(0, "heap", 1, 0);
        due(-1, "missing", 0);
        due(-1, "heapByte", 0, 0);
        due(0, "endIn", 0);
        due(false, "fills", 0, 0, 9);
    }

    private static void heapsGoingFirst() {
        begin("the heap with the least START goes first");
        read(ONE_LINK + ";send 9 0;send 9 0;send 9 0;send 9 0;send 9 0;send 9 0;send 9 0");
        go("forge", 3, 0, 1, 0, true);
        go("pass", 1);
        go("forge", 2, 0, 1, 0, true);
        go("pass", 1);
        go("forge", 0, 0, 1, 0, true);
        go("forge", 1, 0, 1, 0, true);
        // a later piece does not change START
        go("forge", 3, 0, 2, 0, true);
        due(0, "heap", 3, 0);
        go("forge", 4, 0, 1, 0, true);
        rowOf("datagram", 3, 9, 0, 0, 1, 0, 3, 2, 2, 1);
        go("forge", 5, 0, 1, 0, true);
        rowOf("datagram", 2, 9, 0, 0, 1, 0, 3, 2, 2, 1);
        go("forge", 6, 0, 1, 0, true);
        rowOf("datagram", 0, 9, 0, 0, 1, 0, 3, 2, 2, 1);
        due(4, "size", 11);
        row("size", 1, 7, 2, 60, 0, 1500, 27, -1, 7, 0, 0, 4, 4, 0, 3);
    }

    private static void heapsStaying() {
        begin("no heap goes for a datagram that has one, for a stray, or if one was free");
        read(ONE_LINK + ";send 9 0;send 9 0;send 9 0;send 9 0;send 1 0;send 9 0");
        due(0, "forge", 5, 0, 1, 0, false);
        due(2, "datagram", 5, 5);
        for (int i = 0; i < 4; i++) {
            go("forge", i, 0, 1, 0, true);
        }
        due(2, "forge", 0, 0, 2, 0, true);
        due(0, "forge", 5, 0, 1, 0, true);
        due(1, "account", 6);
        due(4, "size", 11);
        due(0, "size", 14);
        // a heap that is left is free
        due(0, "forge", 2, 0, 1, 0, false);
        due(2, "datagram", 2, 5);
        due(3, "size", 11);
        due(0, "forge", 4, 0, 1, 0, false);
        due(1, "datagram", 4, 5);
        due(0, "size", 14);

        begin("a heap goes though the piece is all of its datagram");
        read(ONE_LINK + ";send 9 0;send 9 0;send 9 0;send 9 0;send 1 0");
        for (int i = 0; i < 4; i++) {
            go("forge", i, 0, 1, 0, true);
        }
        due(0, "forge", 4, 0, 1, 0, false);
        due(1, "datagram", 4, 5);
        due(2, "datagram", 0, 7);
        due(3, "size", 11);
    }

    private static void heapsUsedAnew() {
        begin("where a heap was, another one can be; none goes for it");
        read(ONE_LINK + ";send 9 0".repeat(9));
        for (int first = 0; first < 4; first++) {
            fresh();
            read(ONE_LINK + ";send 9 0".repeat(9));
            for (int i = 0; i < 4; i++) {
                go("forge", i, 8, 8, 1, true);
            }
            due(0, "forge", first, 0, 8, 0, false);
            go("pass", 5);
            due(8, "forge", 4, 8, 8, 1, true);
            due(4, "size", 11);
            due(5, "heap", 4, 0);
            // the one that began last goes, and another one comes in its place
            due(0, "forge", 4, 0, 8, 0, false);
            due(3, "size", 11);
            due(1, "forge", 5, 16, 1, 7, true);
            due(4, "size", 11);
            rowOf("heap", 5, 5, -1, 1, 2, 0, 1, 17);
            due(-1, "heapByte", 5, 8);
            due(2, "size", 14);
            // of those of TIME 0 the lowest one goes now
            due(1, "forge", 6, 0, 1, 7, true);
            due(2, "datagram", first == 0 ? 1 : 0, 7);
            due(3, "size", 14);
        }
    }

    // ---- orders and changes ----

    private static void orders() {
        begin("none to 30 orders");
        run(0, "");
        due(1, "size", 15);
        run(30, "pass 1;".repeat(30));
        due(30, "size", 2);
        due(2, "size", 15);
        badOrders(4, 210, "pass 1;".repeat(31));
        badOrders(4, 212, "pass 1;".repeat(30) + "  again 99;");
        badOrders(1, 210, "pass 1;".repeat(30) + "life 1;");
        badOrders(1, 210, "pass 1;".repeat(30) + ";");
        badOrders(2, 208, "pass 1;".repeat(29) + "pass 0;pass 1;");
        due(30, "size", 2);
        due(2, "size", 15);
        run(30, "pass 1;".repeat(30) + "  ");
        due(60, "size", 2);
        due(2, "undo");
        due(30, "size", 2);
        due(1, "undo");
        due(0, "undo");
        due(0, "size", 2);
    }

    private static void backs() {
        begin("the latest 8 changes can be taken back");
        due(-1, "undo");
        due(0, "size", 15);
        for (int i = 1; i <= 8; i++) {
            go("pass", i);
            due(i, "size", 15);
        }
        due(36, "size", 2);
        for (int i = 8; i >= 1; i--) {
            due(i - 1, "undo");
            due(i * (i - 1) / 2, "size", 2);
        }
        due(-1, "undo");
        due(0, "size", 2);
        for (int i = 1; i <= 9; i++) {
            go("pass", i);
        }
        due(8, "size", 15);
        for (int i = 7; i >= 0; i--) {
            due(i, "undo");
        }
        // the first of nine stays
        due(1, "size", 2);
        due(-1, "undo");
        due(1, "size", 2);
    }

    private static void backsBegunAnew() {
        begin("no change can be taken back behind readText and restore");
        go("save");
        go("pass", 7);
        read(ONE_LINK);
        due(0, "size", 15);
        due(-1, "undo");
        go("pass", 3);
        due(0, "restore");
        due(0, "size", 15);
        due(-1, "undo");
        due(576, "size", 5);
        go("pass", 3);
        due(0, "undo");
        due(0, "size", 2);

        begin("what is refused or throws is no change; orders are one, also if none is done");
        go("send", 1, 0, false);
        go("pass", 1);
        due(2, "size", 15);
        due(-2, "again", 0);
        due(RANGE, "send", 0, 0, false);
        due(INDEX, "again", 1);
        due(RANGE, "probe", 27);
        due(INDEX, "setSize", 1, 28);
        due(RANGE, "pass", 501);
        badOrders(1, 0, "x");
        go("save");
        go("writePath");
        go("quietIn");
        due(2, "size", 15);
        run(0, "again 0;");
        due(3, "size", 15);
        run(2, "pass 1;pass 1;");
        due(4, "size", 15);
        due(3, "undo");
        due(1, "size", 2);
        go("forge", 0, 0, 1, 0, true);
        go("setLife", 60);
        go("forget");
        due(6, "size", 15);
    }

    private static void backsRound() {
        begin("changes and taking back, many times round");
        for (int i = 1; i <= 21; i++) {
            go("pass", 1);
        }
        for (int i = 7; i >= 3; i--) {
            due(i, "undo");
        }
        due(16, "size", 2);
        for (int i = 1; i <= 6; i++) {
            go("pass", 10);
        }
        due(8, "size", 15);
        due(76, "size", 2);
        for (int i = 7; i >= 2; i--) {
            due(i, "undo");
        }
        due(16, "size", 2);
        due(1, "undo");
        due(15, "size", 2);
        due(0, "undo");
        due(14, "size", 2);
        due(-1, "undo");
        due(14, "size", 2);
    }

    // ---- what wraps around ----

    private static void bytesRound() {
        begin("the byte i is (SEED + 31 * i) modulo 256");
        go("send", 1000, 0, false);
        go("send", 1000, 255, true);
        due(0, "ownByte", 0, 0);
        due(248, "ownByte", 0, 8);
        due(23, "ownByte", 0, 9);
        due(225, "ownByte", 0, 255);
        due(0, "ownByte", 0, 256);
        due(249, "ownByte", 0, 999);
        due(255, "ownByte", 1, 0);
        due(30, "ownByte", 1, 1);
        due(254, "ownByte", 1, 33);
        due(248, "ownByte", 1, 999);

        begin("the most significant byte is the first, of negative numbers, too");
        go("append", 0x6c696e6b, 0x32382031, 0x20302020, 0x20202020, -2);
        badAt(16);
        go("append", 0x6c696e6b, 0x32382031, 0x20302020, 0x20202020, 0x202020ff);
        badAt(19);
        go("append", 0x6c696e6b, 0x32382031, 0x20302020, 0x2020e120, 0x20202020);
        badAt(14);
        go("append", 0x6c696e6b, 0x32382031, 0x2030203b, 0x6c696665, 0x32303020);
        due(0, "readText");
        due(200, "size", 3);
    }

    private static void badAt(int position) {
        due(RANGE, "readText");
        due(1, "errorCode");
        due(position, "errorPosition");
    }

    private static void countsRound() {
        begin("the packet is lost whose count is divisible by EVERY");
        go("setEvery", 0, 0);
        for (int i = 1; i <= 5; i++) {
            due(i, "probe", 28);
        }
        go("setEvery", 0, 3);
        due(5, "probe", 28);
        due(6, "probe", 28);
        go("setEvery", 0, 1);
        due(6, "probe", 28);
        due(6, "probe", 28);
        go("setEvery", 0, 99);
        due(7, "probe", 28);
        rowOf("link", 0, 576, 1, 99, 10, 7, 3, 0, 0, 280);
        row("account", 10, 3, 0);
        run(30, "probe 28;".repeat(30));
        run(30, "probe 28;".repeat(30));
        run(28, "probe 28;".repeat(28));
        rowOf("link", 0, 576, 1, 99, 98, 95, 3);
        due(95, "probe", 28);
        due(4, "link", 0, 5);
        due(96, "probe", 28);
        due(4, "link", 0, 5);
        due(0, "gap");
    }

    private static void saved() {
        begin("nothing is saved at first; what is saved stays");
        due(STATE, "restore");
        read(ONE_LINK);
        due(STATE, "restore");
        due(0, "save");
        go("pass", 5);
        due(0, "restore");
        go("pass", 6);
        due(0, "restore");
        due(0, "size", 2);
        go("pass", 7);
        due(7, "save");
        go("pass", 1);
        due(1, "undo");
        due(0, "undo");
        due(0, "size", 2);
        due(-1, "undo");
        due(7, "restore");
        due(7, "size", 2);
        read("link 28 1 0");
        due(7, "restore");
        due(1500, "size", 5);
    }
}
