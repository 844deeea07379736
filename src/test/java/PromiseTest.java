/** Each promise of the document, with ordinary inputs, the edges that it names and wrong inputs. */
public final class PromiseTest extends Bench {
    private PromiseTest() { }

    public static void main(String[] args) {
        texts();
        getters();
        path();
        foretelling();
        changes();
        output();
        taking();
        sections();
        end("all promises hold");
    }

    private static void begin(int number) {
        begin("promise " + number);
    }

    // ---- promises 1 to 7 ----

    private static void texts() {
        begin(1);
        row("size", 1, 0, 0, 60, 0, 576, 27, -1, 0, 0, 0, 0, 0, 0, 0, 0);
        row("account", 0, 0, 0, 0, 0, 0, 0, 0, 0, 0, 0, 0);
        rowOf("link", 0, 576, 1, 0, 0, 0, 0, 0, 0, 0);
        due(RANGE, "truncate", 1);
        due(-1, "outputByte", 0);
        due(STATE, "restore");
        due(-1, "undo");
        if (FragmentPath.NONE != -1) {
            fail("NONE", FragmentPath.NONE, -1);
        }

        begin(2);
        for (int i = 1; i <= 25; i++) {
            due(20 * i, "append", 1, 2, 3, 4, 5);
        }
        due(STATE, "append", 1, 2, 3, 4, 5);
        due(481, "truncate", 481);
        due(STATE, "append", 1, 2, 3, 4, 5);
        due(480, "truncate", 480);
        due(500, "append", -1, -1, -1, -1, -1);
        due(0, "truncate", 0);
        // "link", " 30 ", "1 00", ";   ", "life" with the most significant byte first
        due(20, "append", 0x6c696e6b, 0x20333020, 0x31203030, 0x3b202020, 0x6c696665);
        due(40, "append", 0x37202020, 0x20202020, 0x20202020, 0x20202020, 0x20202020);
        due(0, "readText");
        due(7, "size", 3);

        begin(3);
        due(0, "truncate", 0);
        due(RANGE, "truncate", -1);
        due(RANGE, "truncate", 1);
        due(20, "append", 0, 0, 0, 0, 0);
        due(RANGE, "truncate", 21);
        due(20, "truncate", 20);
        due(7, "truncate", 7);
        due(RANGE, "truncate", 8);

        begin(4);
        go("save");
        go("writePath");
        go("setLife", 9);
        type("link 1500 2 3;policy 2;link 28 50 99;send 1 255;life 200 ; send 1000 0 firm");
        due(2, "readText");
        row("size", 2, 2, 0, 200, 2, 1500, 27, -1, 2, 0, 0, 0, 2, 0, 0, 0);
        rowOf("link", 1, 28, 50, 99, 0);
        rowOf("datagram", 1, 1000, 0, 1, 1, 0, 0);
        due(RANGE, "truncate", 1);
        due((int) '5', "outputByte", 0);
        due(0, "restore");
        due(60, "size", 3);
        read("link28 1 0");
        due(28, "size", 5);
        type("link 28 1 0;");
        due(RANGE, "readText");
        due(28, "size", 5);
        errors();

        begin(5);
        due(0, "runOrders");
        due(1, "size", 15);
        type("send 30 7; send 9 1firm ;again 0;probe 30;forge 0 8 5 3more;size 0 40;every 0 2;pass 3;");
        due(8, "runOrders");
        due(2, "size", 15);
        row("size", 1, 2, 3);
        due(1, "account", 10);
        rowOf("link", 0, 40, 1, 2, 4);
        due(1, "undo");
        row("size", 1, 0, 0);
        orders();

        begin(6);
        due(0, "errorCode");
        due(RANGE, "readText");
        due(1, "errorCode");
        due(0, "runOrders");
        due(0, "errorCode");
        badText(4, 72, "link 28 1 0;".repeat(6) + "link");
        read("link 28 1 0");
        due(0, "errorCode");
        go("truncate", 0);

        begin(7);
        due(-1, "errorPosition");
        due(RANGE, "readText");
        due(0, "errorPosition");
        due(0, "runOrders");
        due(-1, "errorPosition");
    }

    private static void errors() {
        badText(1, 0, "");
        badText(1, 2, "  ");
        badText(1, 0, "life 60;link 28 1 0");
        badText(1, 0, "links 28 1 0");
        badText(1, 0, "lin");
        badText(1, 4, "link");
        badText(1, 5, "link ;");
        badText(1, 8, "link 28 ");
        badText(1, 5, "link 00028 1 0");
        badText(1, 5, "link 12345 1 0");
        badText(1, 12, "link 28 1 0 7");
        badText(1, 12, "link 28 1 0 firm");
        badText(1, 12, "link 28 1 0;");
        badText(1, 14, "link 28 1 0;  ");
        badText(1, 12, "link 28 1 0;;link 28 1 0");
        badText(1, 11, "link 28 1 0,life 1");
        badText(1, 11, "link 28 1 0\u00ff");
        badText(1, 11, "link 28 1 0\0");
        badText(1, 12, "link 28 1 0;again 0");
        badText(1, 12, "link 28 1 0;Life 1");
        badText(1, 22, "link 28 1 0;send 1 2  more");
        badText(1, 26, "link 28 1 0;send 1 2 firm firm");
        badText(2, 5, "link 27 1 0");
        badText(2, 5, "link 1501 1 0");
        badText(2, 8, "link 28 0 0");
        badText(2, 8, "link 28 51 0");
        badText(2, 10, "link 28 1 100");
        badText(2, 17, "link 28 1 0;life 0");
        badText(2, 17, "link 28 1 0;life 201");
        badText(2, 19, "link 28 1 0;policy 3");
        badText(2, 17, "link 28 1 0;send 0 0");
        badText(2, 17, "link 28 1 0;send 1001 0");
        badText(2, 19, "link 28 1 0;send 1 256");
        badText(3, 19, "link 28 1 0;life 1;life 0");
        badText(3, 28, "link 28 1 0;policy 1;life 9;policy");
        badText(4, 72, "link 28 1 0;".repeat(6) + "link x");
        badText(4, 372, "link 28 1 0;" + "send 1 1;".repeat(40) + "send");
        badText(1, 372, "link 28 1 0;" + "send 1 1;".repeat(40) + "sent");
        read("  link  0028 01  00 ; send1 2firm;send 3 4 firm ");
        due(2, "size", 1);
        read("link 28 1 0" + ";send 1 1".repeat(40));
        due(40, "size", 1);
        read("link 28 1 0;link 29 1 0;link 30 1 0;link 31 1 0;link 32 1 0;link 33 1 0");
        due(6, "size", 0);
    }

    private static void orders() {
        run(0, "   ");
        badOrders(1, 6, "pass 1");
        badOrders(1, 0, ";");
        badOrders(1, 0, "link 28 1 0;");
        badOrders(1, 0, "life 1;");
        badOrders(1, 7, "pass 1;;");
        badOrders(1, 7, "pass 1;x");
        badOrders(1, 7, "pass 1 firm;");
        badOrders(1, 14, "forge 0 0 1 1 firm;");
        badOrders(2, 5, "pass 0;");
        badOrders(2, 5, "pass 501;");
        badOrders(2, 6, "again 40;");
        badOrders(2, 6, "probe 27;");
        badOrders(2, 6, "probe 1501;");
        badOrders(2, 6, "forge 40 0 1 1;");
        badOrders(2, 8, "forge 0 993 1 1;");
        badOrders(2, 8, "forge 0 1000 1 1;");
        badOrders(2, 8, "forge 0 4 1 1;");
        badOrders(2, 10, "forge 0 0 0 1;");
        badOrders(2, 10, "forge 0 0 201 1;");
        badOrders(2, 12, "forge 0 0 1 256;");
        badOrders(2, 5, "size 6 28;");
        badOrders(2, 7, "size 0 27;");
        badOrders(2, 6, "every 6 0;");
        badOrders(2, 8, "every 0 100;");
        badOrders(4, 210, "pass 1;".repeat(30) + "pass x");
        badOrders(1, 210, "pass 1;".repeat(30) + "past");
        due(0, "size", 2);
        run(30, "pass 1;".repeat(30));
        due(30, "size", 2);
        run(1, "pass 1;again 0;pass 1;");
        run(1, "pass 1;forge 0 0 1 1;pass 1;");
        run(1, "pass 1;size 1 28;pass 1;");
        run(1, "pass 1;every 5 0;pass 1;");
        due(34, "size", 2);
        run(19, "pass 500;".repeat(20));
        due(9534, "size", 2);
        run(1, "pass 465;pass 1;");
        due(9999, "size", 2);
        read("link 28 1 0" + ";send 1 1".repeat(39));
        run(1, "send 1 1;send 1 1;pass 1;");
        run(2, "pass 1;pass 1;again 0;pass 1;");
        due(2, "size", 2);
        run(0, "again 39;");
    }

    // ---- promises 8 to 17 ----

    private static void getters() {
        begin(8);
        due(RANGE, "size", -1);
        due(RANGE, "size", 16);
        read("link 100 2 0;link 60 3 0;send 50 1;send 60 2 firm;policy 1;life 20");
        row("size", 2, 2, 0, 20, 1, 100, 27, -1, 2, 0, 0, 0, 2, 0, 0, 0);
        go("probe", 50);
        go("pass", 2);
        row("size", 2, 2, 2, 20, 1, 100, 27, -1, 3, 1, 0, 0, 2, 0, 0, 2);
        go("pass", 2);
        row("size", 2, 2, 4, 20, 1, 60, 27, -1, 5, 0, 0, 0, 2, 0, 0, 3);
        go("pass", 1);
        row("size", 2, 2, 5, 20, 1, 60, 27, -1, 2, 0, 1, 0, 1, 1, 0, 4);
        go("pass", 4);
        go("pass", 1);
        row("size", 2, 2, 10, 20, 1, 60, 50, -1, 0, 0, 0, 0, 0, 2, 0, 6);

        begin(9);
        due(INDEX, "link", -1, 0);
        due(INDEX, "link", 1, 99);
        due(RANGE, "link", 0, -1);
        due(RANGE, "link", 0, 9);
        read("link 1500 1 0;link 60 4 3;send 100 0;send 100 0 firm");
        rowOf("link", 0, 1500, 1, 0, 2, 2, 0, 0, 0, 240);
        go("pass", 1);
        // 100 bytes by 60: 40, 40, 20; the third packet is lost; the firm one is dropped
        rowOf("link", 1, 60, 4, 3, 3, 2, 1, 1, 1, 160);
        rowOf("link", 0, 1500, 1, 0, 2, 0, 0, 0, 0, 240);

        begin(10);
        due(INDEX, "datagram", 0, 0);
        go("pass", 7);
        go("send", 700, 3, false);
        go("send", 9, 255, true);
        due(INDEX, "datagram", 2, 0);
        due(INDEX, "datagram", -1, 77);
        due(RANGE, "datagram", 0, -1);
        due(RANGE, "datagram", 0, 9);
        rowOf("datagram", 0, 700, 3, 0, 1, 7, 0, -1, 0, 2);
        rowOf("datagram", 1, 9, 255, 1, 1, 7, 0, -1, 0, 1);
        go("again", 1);
        rowOf("datagram", 1, 9, 255, 1, 2, 7, 0, -1, 0, 2);
        go("forge", 0, 992, 10, 1, false);
        go("pass", 1);
        rowOf("datagram", 0, 700, 3, 0, 1, 7, 3, 8, 3, 0);
        rowOf("datagram", 1, 9, 255, 1, 2, 7, 1, 8, 0, 0);

        begin(11);
        due(INDEX, "ownByte", 0, 0);
        go("send", 1000, 250, false);
        due(INDEX, "ownByte", 1, 0);
        due(INDEX, "ownByte", -1, 0);
        due(250, "ownByte", 0, 0);
        due(25, "ownByte", 0, 1);
        due((250 + 31 * 999) % 256, "ownByte", 0, 999);
        due(-1, "ownByte", 0, 1000);
        due(-1, "ownByte", 0, -1);

        begin(12);
        due(INDEX, "packet", 0, 0);
        read("link 100 5 0;link 60 1 0;send 100 0");
        due(INDEX, "packet", 2, 0);
        due(INDEX, "packet", -1, 9);
        due(RANGE, "packet", 0, 7);
        due(RANGE, "packet", 0, -1);
        rowOf("packet", 0, 0, 5, 0, 0, 100, 1, 0);
        rowOf("packet", 1, 0, 5, 0, 80, 40, 0, 0);
        go("pass", 4);
        go("probe", 50);
        go("send", 9, 9, true);
        go("pass", 1);
        // on the link 1: 40, 40 and 20 bytes, at 6; on the link 0: those that are at its end at 9
        rowOf("packet", 0, 1, 6, 0, 0, 60, 1, 0);
        rowOf("packet", 1, 1, 6, 0, 40, 60, 1, 0);
        rowOf("packet", 2, 1, 6, 0, 80, 40, 0, 0);
        rowOf("packet", 3, 0, 9, -1, -1, 50, 0, 1);
        rowOf("packet", 4, 0, 9, 1, 0, 29, 0, 1);
        read("link 100 6 0;link 60 1 0;link 60 5 0;send 9 0");
        go("pass", 6);
        go("send", 9, 1, false);
        go("pass", 1);
        // times 12 on the links 0 and 2: the lower link is ahead
        rowOf("packet", 0, 0, 12, 1);
        rowOf("packet", 1, 2, 12, 0);

        begin(13);
        due(INDEX, "heap", 0, 0);
        due(INDEX, "heap", -1, 99);
        go("send", 900, 0, false);
        rowOf("heap", 0, -1, -1, -1, -1, -1, -1, -1);
        due(RANGE, "heap", 0, 7);
        due(RANGE, "heap", 0, -1);
        go("setLife", 200);
        go("again", 0);
        go("undo");
        go("pass", 500);
        go("send", 900, 0, false);
        go("forge", 1, 16, 8, 1, true);
        rowOf("heap", 1, 500, -1, 8, 2, 0, 1, 24);
        go("forge", 1, 20 * 8, 8, 1, false);
        rowOf("heap", 1, 500, 168, 16, 2, 0, 2, 168);
        go("forge", 1, 16, 9, 1, true);
        rowOf("heap", 1, 500, 168, 17, 2, 8, 3, 168);

        begin(14);
        due(INDEX, "hole", 0, 0, 0);
        go("send", 900, 0, false);
        due(-1, "hole", 0, 0, 0);
        due(RANGE, "hole", 0, 0, 2);
        due(RANGE, "hole", 0, 0, -1);
        go("forge", 0, 16, 8, 1, true);
        due(0, "hole", 0, 0, 0);
        due(16, "hole", 0, 0, 1);
        due(24, "hole", 0, 1, 0);
        due(-1, "hole", 0, 1, 1);
        due(-1, "hole", 0, 2, 0);
        due(-1, "hole", 0, -1, 1);
        go("forge", 0, 0, 8, 1, true);
        due(8, "hole", 0, 0, 0);
        due(16, "hole", 0, 0, 1);
        go("forge", 0, 40, 2, 1, false);
        due(24, "hole", 0, 1, 0);
        due(40, "hole", 0, 1, 1);
        due(-1, "hole", 0, 2, 0);

        begin(15);
        due(INDEX, "heapByte", 0, 0);
        go("send", 900, 7, false);
        due(-1, "heapByte", 0, 0);
        go("forge", 0, 8, 8, 255, true);
        due(-1, "heapByte", 0, 7);
        due(255, "heapByte", 0, 8);
        due(255, "heapByte", 0, 15);
        due(-1, "heapByte", 0, 16);
        due(-1, "heapByte", 0, -1);
        due(-1, "heapByte", 0, 100000);
        go("setEvery", 0, 4);
        go("pass", 1);
        due(0, "size", 11);
        accounts();
    }

    private static void accounts() {
        begin(16);
        due(RANGE, "account", -1);
        due(RANGE, "account", 12);
        read("link 100 1 3;link 60 1 0;send 100 0;send 60 5 firm");
        // pieces of 80 and 20 bytes; the firm one of 60 bytes is the third packet and is lost
        row("account", 3, 1, 0, 1, 0, 0, 0, 0, 0, 0, 0, 0);
        go("pass", 1);
        row("account", 6, 1, 0, 2, 0, 0, 0, 0, 0, 0, 0, 0);
        go("again", 1);
        go("probe", 70);
        go("pass", 1);
        // both of them dropped ahead of the link 1; datagram 0 handed over
        row("account", 8, 1, 0, 2, 2, 3, 0, 0, 0, 0, 0, 100);
        go("pass", 1);
        row("account", 10, 2, 0, 2, 2, 3, 0, 0, 2, 0, 0, 100);
        go("forge", 0, 0, 1, 1, true);
        go("forge", 1, 0, 50, 1, true);
        row("account", 10, 2, 0, 2, 2, 5, 1, 0, 2, 0, 2, 100);
        go("pass", 2);
        // the piece of 40 bytes was lost as the sixth packet; that of 20 covers 10 forged bytes
        row("account", 11, 2, 0, 2, 2, 6, 1, 10, 2, 0, 2, 160);
        due(7, "undo");
        row("account", 10, 2, 0, 2, 2, 5, 1, 0, 2, 0, 2, 100);
        go("probe", 60);
        go("probe", 60);
        go("pass", 4);
        due(1, "account", 9);

        begin(17);
        due(0, "gap");
        read("link 60 3 2;link 40 1 3;send 1000 1;send 1000 2 firm");
        for (int i = 0; i < 8; i++) {
            due(0, "gap");
            go("pass", 1);
        }
        go("undo");
        due(0, "gap");
    }

    // ---- promises 18 to 24 ----

    private static void path() {
        begin(18);
        due(576, "narrowest");
        read("link 1500 1 0;link 300 1 0;link 301 1 0");
        due(300, "narrowest");
        go("setSize", 1, 302);
        due(301, "narrowest");

        begin(19);
        due(1, "wholeDelay");
        read("link 1500 50 0;link 300 1 0;link 301 7 0");
        due(58, "wholeDelay");

        begin(20);
        due(INDEX, "pieces", 0, 1);
        due(INDEX, "pieces", 0, -1);
        due(RANGE, "pieces", 0, 0);
        due(RANGE, "pieces", 1001, 0);
        due(1, "pieces", 556, 0);
        due(2, "pieces", 557, 0);
        read("link 100 1 0;link 60 1 0;link 200 1 0");
        // 200: 80, 80, 40; then 40 40, 40 40, 40
        due(3, "pieces", 200, 0);
        due(5, "pieces", 200, 1);
        due(5, "pieces", 200, 2);
        due(1, "pieces", 1, 2);
        read("link 28 1 0");
        due(125, "pieces", 1000, 0);

        begin(21);
        due(RANGE, "burden", 0);
        due(RANGE, "burden", 1001);
        due(21, "burden", 1);
        due(576, "burden", 556);
        due(597, "burden", 557);
        read("link 100 1 0;link 60 1 0;link 200 1 0");
        due(260 + 300 + 300, "burden", 200);

        begin(22);
        due(RANGE, "bestLong", 0);
        due(RANGE, "bestLong", 3001);
        due(1, "bestLong", 1);
        due(556, "bestLong", 556);
        due(557, "bestLong", 557);
        // two packets are needed for 1000; so many go with 1000 at once
        due(1000, "bestLong", 1000);
        // 556 bytes in a packet: 2224 in 4 of them; greater ones need more
        due(556, "bestLong", 2224);
        read("link 28 1 0");
        due(1000, "bestLong", 3000);
        due(1000, "bestLong", 2000);

        begin(23);
        due(1500, "nextProbe");
        go("probe", 1000);
        due(1000, "size", 7);
        due((27 + 1000) / 2, "nextProbe");
        go("probe", 28);
        go("pass", 2);
        due((28 + 1000) / 2, "nextProbe");
        go("probe", 576);
        go("pass", 2);
        go("probe", 578);
        due(577, "nextProbe");
        go("probe", 577);
        due(-1, "nextProbe");
        read("link 1500 1 0");
        go("probe", 1500);
        go("pass", 2);
        due(-1, "nextProbe");

        begin(24);
        due(false, "isFound");
        go("probe", 576);
        go("pass", 2);
        due(false, "isFound");
        go("probe", 578);
        due(false, "isFound");
        go("probe", 577);
        due(true, "isFound");
        read("link 1500 1 0");
        go("probe", 1500);
        go("pass", 1);
        due(false, "isFound");
        go("pass", 1);
        due(true, "isFound");
    }

    // ---- promises 25 to 33 ----

    private static void foretelling() {
        begin(25);
        due(INDEX, "missing", 0);
        go("send", 900, 0, false);
        due(-1, "missing", 0);
        go("forge", 0, 8, 8, 0, true);
        due(-1, "missing", 0);
        go("forge", 0, 40, 8, 0, false);
        due(32, "missing", 0);

        begin(26);
        due(INDEX, "fills", 0, -1, 0);
        go("send", 900, 0, false);
        due(RANGE, "fills", 0, -1, 1);
        due(RANGE, "fills", 0, 1001, 1);
        due(RANGE, "fills", 0, 0, 0);
        due(RANGE, "fills", 0, 0, 1001);
        due(false, "fills", 0, 0, 1000);
        go("forge", 0, 8, 8, 0, true);
        due(false, "fills", 0, 0, 1000);
        go("forge", 0, 16, 8, 0, false);
        due(true, "fills", 0, 0, 8);
        due(true, "fills", 0, 0, 24);
        due(false, "fills", 0, 0, 7);
        due(false, "fills", 0, 1, 8);
        due(false, "fills", 0, 1000, 1000);
        go("undo");
        go("forge", 0, 24, 8, 0, false);
        due(false, "fills", 0, 0, 8);
        due(true, "fills", 0, 0, 24);
        due(true, "fills", 0, 0, 1000);

        begin(27);
        due(INDEX, "handedIn", 0);
        read("link 100 5 0;link 60 3 4;send 100 0;send 30 0");
        // of datagram 0 three pieces on the link 1, then that of datagram 1 which is lost
        due(8, "handedIn", 0);
        due(-1, "handedIn", 1);
        go("pass", 7);
        due(1, "handedIn", 0);
        go("pass", 1);
        due(0, "handedIn", 0);
        due(8, "size", 2);

        begin(28);
        due(INDEX, "endIn", -1);
        read("link 100 5 0;send 30 0;send 30 9;life 200");
        go("forge", 1, 0, 8, 1, true);
        go("pass", 2);
        go("forge", 0, 0, 8, 1, true);
        go("setPolicy", 2);
        due(3, "endIn", 0);
        due(3, "endIn", 1);
        due(-1, "handedIn", 0);
        go("pass", 3);
        due(0, "endIn", 0);
        go("send", 30, 0, false);
        go("setEvery", 0, 1);
        go("send", 30, 0, false);
        due(5, "endIn", 2);
        due(-1, "endIn", 3);
        go("forge", 3, 0, 8, 1, true);
        due(200, "endIn", 3);

        begin(29);
        due(0, "quietIn");
        read("link 100 5 0;link 60 3 0;send 30 0");
        due(8, "quietIn");
        go("probe", 60);
        due(16, "quietIn");
        go("undo");
        go("probe", 61);
        due(10, "quietIn");
        go("forge", 0, 0, 8, 1, true);
        due(10, "quietIn");
        go("setEvery", 0, 1);
        go("send", 1, 1, false);
        go("forge", 1, 8, 8, 1, true);
        due(60, "quietIn");
        go("setEvery", 0, 0);
        for (int i = 0; i < 19; i++) {
            go("pass", 500);
        }
        go("pass", 499);
        go("probe", 60);
        due(16, "quietIn");
        due(-3, "pass", 1);

        begin(30);
        due(RANGE, "pathIn", -1);
        due(RANGE, "pathIn", 601);
        due(576, "pathIn", 0);
        read("link 100 5 0;link 60 3 0;send 80 0 firm");
        due(100, "pathIn", 9);
        due(60, "pathIn", 10);
        due(60, "pathIn", 600);
        due(100, "size", 5);

        begin(31);
        due(RANGE, "handedBy", 0, 0);
        due(RANGE, "handedBy", 201, 0);
        due(RANGE, "handedBy", 1, -1);
        due(RANGE, "handedBy", 1, 3);
        due(0, "handedBy", 1, 0);
        read("link 100 5 0;send 30 0;send 30 0");
        go("forge", 0, 0, 8, 1, true);
        due(2, "handedBy", 6, 1);
        due(2, "handedBy", 200, 0);
        due(2, "handedBy", 5, 1);
        due(1, "handedBy", 4, 1);
        due(1, "handedBy", 200, 2);
        go("pass", 5);
        due(2, "handedBy", 1, 1);
        row("size", 1, 2, 5, 60, 0);

        begin(32);
        due(0.0f, "trueShare");
        go("send", 8, 0, false);
        due(0.0f, "trueShare");
        go("forge", 0, 0, 8, 1, false);
        due(0.0f, "trueShare");
        go("send", 8, 0, false);
        go("send", 8, 0, false);
        go("pass", 1);
        due(2.0f / 3.0f, "trueShare");

        begin(33);
        due(0.0, "meanTries");
        go("send", 8, 0, false);
        go("again", 0);
        due(2.0, "meanTries");
        go("send", 8, 0, false);
        go("send", 8, 0, false);
        due(4.0 / 3.0, "meanTries");
    }

    // ---- promises 34 to 43 ----

    private static void changes() {
        begin(34);
        due(RANGE, "send", 0, 0, true);
        due(RANGE, "send", 1001, 0, true);
        due(RANGE, "send", 1, -1, true);
        due(RANGE, "send", 1, 256, true);
        due(0, "size", 15);
        for (int i = 0; i < 40; i++) {
            due(i, "send", i == 0 ? 1000 : 1, i == 1 ? 255 : 0, i % 2 == 0);
        }
        due(-1, "send", 1, 0, true);
        due(RANGE, "send", 0, 0, true);
        due(40, "size", 1);
        due(8, "size", 15);
        due(7, "undo");
        due(39, "send", 1, 0, true);

        begin(35);
        due(INDEX, "again", 0);
        go("send", 1, 0, false);
        for (int i = 2; i < 7; i++) {
            due(i, "again", 0);
        }
        go("pass", 1);
        due(1, "datagram", 0, 5);
        due(5, "account", 6);
        due(-2, "again", 0);
        due(7, "size", 15);

        begin(36);
        due(RANGE, "probe", 27);
        due(RANGE, "probe", 1501);
        due(1, "probe", 28);
        due(2, "probe", 576);
        due(2, "probe", 577);
        row("size", 1, 0, 0, 60, 0, 576, 27, 577, 2);
        due(3, "size", 15);

        begin(37);
        due(INDEX, "forge", 0, -1, 0, -1, true);
        go("send", 900, 0, false);
        due(RANGE, "forge", 0, -8, 1, 0, true);
        due(RANGE, "forge", 0, 1000, 1, 0, true);
        due(RANGE, "forge", 0, 4, 1, 0, true);
        due(RANGE, "forge", 0, 0, 0, 0, true);
        due(RANGE, "forge", 0, 0, 201, 0, true);
        due(RANGE, "forge", 0, 0, 1, -1, true);
        due(RANGE, "forge", 0, 0, 1, 256, true);
        due(1, "size", 15);
        due(200, "forge", 0, 992, 200, 255, true);
        due(208, "forge", 0, 0, 8, 0, true);
        due(1192, "heap", 0, 6);
        due(0, "forge", 0, 0, 8, 0, false);
        due(3, "datagram", 0, 5);
        due(0, "forge", 0, 0, 8, 0, false);
        due(1, "account", 6);
        due(4, "account", 10);
        due(5, "size", 15);

        begin(38);
        due(INDEX, "setSize", 1, 0);
        due(RANGE, "setSize", 0, 27);
        due(RANGE, "setSize", 0, 1501);
        due(576, "setSize", 0, 28);
        due(28, "setSize", 0, 1500);
        due(1500, "link", 0, 0);
        due(576, "size", 5);
        due(2, "size", 15);

        begin(39);
        due(INDEX, "setEvery", -1, 200);
        due(RANGE, "setEvery", 0, -1);
        due(RANGE, "setEvery", 0, 100);
        due(0, "setEvery", 0, 99);
        due(99, "setEvery", 0, 1);
        due(0, "probe", 28);
        due(1, "link", 0, 5);
        due(3, "size", 15);

        begin(40);
        due(RANGE, "setLife", 0);
        due(RANGE, "setLife", 201);
        due(60, "setLife", 200);
        due(200, "setLife", 1);
        due(1, "size", 3);
        due(2, "size", 15);

        begin(41);
        due(RANGE, "setPolicy", -1);
        due(RANGE, "setPolicy", 3);
        due(0, "setPolicy", 2);
        due(2, "setPolicy", 1);
        due(1, "size", 4);
        due(2, "size", 15);

        begin(42);
        go("probe", 100);
        go("probe", 600);
        go("pass", 2);
        go("setSize", 0, 80);
        go("probe", 90);
        row("size", 1, 0, 2, 60, 0, 80, 100, 90);
        go("setSize", 0, 300);
        due(300, "forget");
        row("size", 1, 0, 2, 60, 0, 300, 27, -1);
        due(6, "undo");
        row("size", 1, 0, 2, 60, 0, 80, 100, 90);

        begin(43);
        due(RANGE, "pass", 0);
        due(RANGE, "pass", 501);
        due(0, "size", 15);
        go("send", 1, 0, false);
        go("send", 1, 0, false);
        due(2, "pass", 1);
        due(0, "pass", 500);
        for (int i = 0; i < 18; i++) {
            due(0, "pass", 500);
        }
        due(-3, "pass", 499);
        due(0, "pass", 498);
        due(9999, "size", 2);
        due(-3, "pass", 1);
        due(RANGE, "pass", 0);
        due(8, "size", 15);
    }

    // ---- promises 44 to 46 ----

    private static void output() {
        begin(44);
        due(INDEX, "writeHeap", 0);
        go("send", 900, 0, false);
        written("x", "writeHeap", 0);
        go("forge", 0, 8, 1, 0, true);
        written("8-8/?", "writeHeap", 0);
        go("forge", 0, 992, 20, 0, false);
        written("8-8,992-1011/1012", "writeHeap", 0);
        go("forge", 0, 0, 9, 0, true);
        written("0-8,992-1011/1012", "writeHeap", 0);
        due(INDEX, "writeHeap", 1);
        due((int) '0', "outputByte", 0);

        begin(45);
        written("576*0", "writePath");
        read("link 28 1 0;link 1500 1 0;send 80 0");
        written("28*10>1500*0", "writePath");
        go("pass", 1);
        written("28*0>1500*10", "writePath");

        begin(46);
        due(-1, "outputByte", 0);
        due(-1, "outputByte", -1);
        go("writePath");
        due((int) '*', "outputByte", 3);
        due(-1, "outputByte", 5);
        due(-1, "outputByte", Integer.MAX_VALUE);
        due(-1, "outputByte", Integer.MIN_VALUE);
    }

    // ---- promises 47 to 49 ----

    private static void taking() {
        begin(47);
        due(-1, "undo");
        for (int i = 1; i <= 10; i++) {
            go("pass", 1);
        }
        go("writePath");
        type("link 28");
        due(8, "size", 15);
        for (int i = 7; i >= 0; i--) {
            due(i, "undo");
        }
        due(-1, "undo");
        due(2, "size", 2);
        due((int) '5', "outputByte", 0);
        due(7, "truncate", 7);
        due(RANGE, "readText");
        go("pass", 1);
        due(0, "undo");
        due(1, "errorCode");
        due(7, "errorPosition");
        go("send", 300, 0, false);
        go("forge", 0, 8, 8, 1, true);
        go("setSize", 0, 100);
        go("setEvery", 0, 2);
        go("again", 0);
        go("probe", 101);
        go("setLife", 3);
        go("setPolicy", 2);
        go("pass", 5);
        for (int i = 0; i < 7; i++) {
            go("undo");
        }
        // what is there behind the forged piece
        row("size", 1, 1, 2, 60, 0, 576, 27, -1, 1, 0, 0, 1, 1, 0, 0, 1);
        rowOf("link", 0, 576, 1, 0, 1, 1, 0, 0, 0, 320);
        due(8, "heap", 0, 2);
        due(0, "undo");
        due(-1, "heap", 0, 2);

        begin(48);
        due(0, "save");
        go("pass", 9);
        due(9, "save");
        due(1, "size", 15);
        go("pass", 1);
        due(9, "restore");

        begin(49);
        due(STATE, "restore");
        go("send", 30, 1, false);
        go("forge", 0, 8, 8, 1, true);
        go("save");
        go("pass", 1);
        go("setSize", 0, 28);
        go("writePath");
        type("pass 1");
        due(0, "restore");
        row("size", 1, 1, 0, 60, 0, 576, 27, -1, 1, 0, 0, 1, 1, 0, 0, 0);
        due(-1, "undo");
        due(6, "truncate", 6);
        due((int) '2', "outputByte", 0);
        go("pass", 1);
        due(0, "size", 11);
        due(0, "restore");
        due(1, "size", 11);
        due(1, "heapByte", 0, 8);
    }

    // ---- the sections of the terms ----

    private static void sections() {
        sectionPath();
        sectionSender();
        sectionReceiver();
        manyNotes();
        farAhead();
    }

    private static void sectionPath() {
        begin(1);
        // 300 packets on their way: the others are crowded out, but counted
        read("link 28 9 0;send 1000 1;send 1000 2;send 1000 3");
        row("account", 375, 0, 75);
        due(300, "size", 8);
        due(300, "probe", 28);
        row("account", 376, 0, 76);
        // a packet that is lost is not crowded out
        go("setEvery", 0, 1);
        due(300, "probe", 28);
        row("account", 377, 1, 76);
        due(0, "gap");
        // pieces that are cut again: 130 by 100 is 80 and 50; 80 by 50 is 24, 24, 24, 8; 50 is 24, 26
        read("link 100 1 0;link 50 1 0;send 130 0");
        go("pass", 1);
        due(6, "size", 8);
        rowOf("packet", 3, 1, 2, 0, 72, 28, 1, 0);
        rowOf("packet", 4, 1, 2, 0, 80, 44, 1, 0);
        rowOf("packet", 5, 1, 2, 0, 104, 46, 0, 0);
        due(2, "link", 1, 6);
        due(1, "link", 0, 6);
        // a note tells SIZE as it was when it began
        read("link 100 4 0;link 50 1 0;send 80 0 firm");
        go("pass", 4);
        go("setSize", 1, 40);
        due(1, "size", 9);
        go("pass", 3);
        due(100, "size", 5);
        go("pass", 1);
        due(50, "size", 5);
    }

    private static void sectionSender() {
        begin(2);
        // by PATH 100 firm pieces have 80 bytes though the link could carry more
        read("link 100 1 0;send 200 0 firm");
        go("setSize", 0, 400);
        go("send", 200, 0, true);
        rowOf("packet", 3, 0, 1, 1, 0, 100, 1, 1);
        rowOf("packet", 5, 0, 1, 1, 160, 60, 0, 1);
        due(0, "account", 3);
        // a note of the node 0 comes at once; the datagram is sent again ahead of its other pieces
        go("setSize", 0, 60);
        go("send", 200, 0, true);
        due(60, "size", 5);
        due(2, "datagram", 2, 3);
        due(6, "datagram", 2, 8);
        row("account", 3 + 3 + 6, 0, 0, 0, 2, 0, 0, 0, 2);
        rowOf("packet", 6, 0, 1, 2, 0, 60, 1, 1);
        rowOf("packet", 11, 0, 1, 2, 160, 60, 0, 1);
        // the third try is the last one that the sender makes by itself
        read("link 1500 1 0;link 300 1 0;link 200 1 0;link 100 1 0;send 1000 1 firm");
        due(1500, "size", 5);
        go("pass", 2);
        due(300, "size", 5);
        due(2, "datagram", 0, 3);
        go("pass", 4);
        due(200, "size", 5);
        due(3, "datagram", 0, 3);
        go("pass", 100);
        due(100, "size", 5);
        due(3, "datagram", 0, 3);
        due(0, "datagram", 0, 5);
        due(4, "again", 0);
        go("pass", 4);
        due(1, "datagram", 0, 5);
        due(110, "datagram", 0, 6);
        // a note that tells no less size changes nothing; the least probe that did not go is HIGH
        go("probe", 1000);
        go("probe", 600);
        go("probe", 700);
        go("probe", 90);
        go("pass", 8);
        row("size", 4, 1, 118, 60, 0, 100, 90, 600);
    }

    /** What is foretold for 600 ticks, and not for one more. */
    private static void farAhead() {
        begin(29);
        String far = "link 1500 50 0;".repeat(5);
        read(far + "link 100 50 0");
        go("probe", 90);
        due(600, "quietIn");
        read(far + "link 100 50 0;send 1000 1 firm");
        // dropped at 250, the note comes at 500, the datagram is handed over at 800
        due(-1, "quietIn");
        due(1500, "pathIn", 499);
        due(100, "pathIn", 500);
        go("pass", 199);
        due(-1, "handedIn", 0);
        due(-1, "endIn", 0);
        due(0, "handedBy", 60, 0);
        go("pass", 1);
        due(1, "handedBy", 60, 0);
        due(600, "handedIn", 0);
        due(600, "endIn", 0);
        due(600, "quietIn");
        due(200, "size", 2);
    }

    /** Many notes and answers on their way at once. */
    private static void manyNotes() {
        begin(8);
        read("link 1000 50 0;link 60 50 0");
        for (int i = 0; i < 50; i++) {
            run(3, "probe 60;probe 999;pass 1;");
        }
        row("size", 2, 0, 50, 60, 0, 1000, 27, -1, 99, 1, 0);
        go("pass", 49);
        row("size", 2, 0, 99, 60, 0, 1000, 27, -1, 50, 50, 0);
        go("pass", 1);
        row("size", 2, 0, 100, 60, 0, 60, 27, 999, 49, 49, 1);
        go("save");
        go("pass", 49);
        row("size", 2, 0, 149, 60, 0, 60, 27, 999, 0, 0, 50);
        due(100, "quietIn");
        go("pass", 50);
        due(27, "size", 6);
        go("pass", 1);
        due(60, "size", 6);
        due(49, "quietIn");
        row("account", 150, 0, 0, 0, 50, 0, 0, 0, 50, 1);
        due(100, "restore");
        row("size", 2, 0, 100, 60, 0, 60, 27, 999, 49, 49, 1);
        due(149, "quietIn");
    }

    private static void sectionReceiver() {
        begin(3);
        // END known as another number
        read("link 1500 50 0;send 100 0;send 100 0;send 100 0;send 100 0;send 100 0");
        go("forge", 0, 0, 8, 1, false);
        due(2, "datagram", 0, 5);
        go("forge", 1, 40, 8, 1, false);
        due(0, "forge", 1, 48, 8, 1, false);
        rowOf("datagram", 1, 100, 0, 0, 1, 0, 3, 0, 3, 1);
        // a piece with MORE that ends at END is fine, one that ends behind it is not
        go("forge", 2, 40, 8, 1, false);
        due(16, "forge", 2, 32, 8 + 8, 2, true);
        due(8, "account", 7);
        due(1, "heapByte", 2, 40);
        due(2, "heapByte", 2, 39);
        due(0, "forge", 2, 48, 1, 2, true);
        due(3, "datagram", 2, 7);
        // a byte at last is known
        go("forge", 3, 8, 8, 1, true);
        due(0, "forge", 3, 0, 8, 2, false);
        due(3, "datagram", 3, 7);
        // the policies
        go("forge", 4, 8, 8, 1, true);
        go("setPolicy", 1);
        go("forge", 4, 8, 4, 2, true);
        due(2, "heapByte", 4, 11);
        due(1, "heapByte", 4, 12);
        go("setPolicy", 2);
        due(8, "forge", 4, 8, 4, 2, true);
        due(0, "forge", 4, 8, 5, 2, true);
        rowOf("datagram", 4, 100, 0, 0, 1, 0, 3, 0, 4);
        due(8 + 4 + 4 + 5, "account", 7);
        due(8, "account", 11);
        heapsGoing();
    }

    private static void heapsGoing() {
        read("link 1500 50 0;life 10;send 9 0;send 9 0;send 9 0;send 9 0;send 9 0;send 9 0");
        go("forge", 3, 0, 8, 1, true);
        go("forge", 2, 0, 8, 1, true);
        go("pass", 1);
        go("forge", 0, 0, 8, 1, true);
        go("forge", 1, 0, 8, 1, true);
        due(4, "size", 11);
        go("forge", 5, 0, 8, 1, true);
        rowOf("datagram", 2, 9, 0, 0, 1, 0, 3, 1, 2);
        go("forge", 4, 0, 8, 1, true);
        rowOf("datagram", 3, 9, 0, 0, 1, 0, 3, 1, 2);
        due(4, "size", 11);
        go("pass", 9);
        due(4, "size", 11);
        go("pass", 1);
        due(0, "size", 11);
        rowOf("datagram", 0, 9, 0, 0, 1, 0, 3, 11, 1);
        // false: END is another number than LONG, though all bytes are its own
        read("link 1500 50 0;send 9 5;send 1 5");
        go("forge", 0, 0, 1, 5, false);
        due(2, "datagram", 0, 5);
        go("forge", 1, 0, 1, 5, false);
        due(1, "datagram", 1, 5);
    }
}
