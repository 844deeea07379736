/** The first and the last tick: of LIFE, of TIME, and of what is foretold; and the order within a tick. */
public final class TicksTest extends Bench {
    private static final String FAR = "link 1500 50 0;".repeat(5);

    private TicksTest() { }

    public static void main(String[] args) {
        lives(1);
        lives(2);
        lives(60);
        lives(200);
        lifeOfEachHeap();
        lifeSetLater();
        piecesAheadOfLife();
        notesAheadOfLife();
        packetsAheadOfNotes();
        linksInOrder();
        notesInOrder();
        lastTime();
        handedWithin();
        endWithin();
        quietWithin();
        pathWithin();
        handedByWithin();
        behindTheEnd();
        now();
        otherLifeAndPolicy();
        end("first and last ticks hold");
    }

    // ---- section 4 ----

    private static void lives(int life) {
        begin("a heap is given up as TIME less START is LIFE, " + life);
        read("link 1500 50 1;life " + life + ";send 900 0");
        go("pass", 7);
        go("forge", 0, 8, 8, 1, true);
        due(life, "endIn", 0);
        due(life, "quietIn");
        if (life > 1) {
            go("pass", life - 1);
            due(1, "size", 11);
            due(7, "heap", 0, 0);
            due(0, "datagram", 0, 5);
            due(1, "endIn", 0);
        }
        // a later piece does not make it younger
        go("forge", 0, 8, 8, 1, true);
        due(0, "pass", 1);
        due(0, "size", 11);
        rowOf("datagram", 0, 900, 0, 0, 1, 0, 3, 7 + life, 1, 0);
        due(0, "endIn", 0);
    }

    private static void lifeOfEachHeap() {
        begin("each heap has a START of its own");
        read("link 28 1 1;life 5;send 900 0;send 900 1;send 900 2;send 900 3");
        for (int i = 3; i >= 0; i--) {
            go("forge", i, 8, 8, 1, true);
            go("pass", 1);
        }
        due(4, "size", 11);
        for (int i = 3; i >= 0; i--) {
            due(1, "endIn", i);
            go("pass", 1);
            due(i, "size", 11);
            rowOf("datagram", i, 900, i, 0, 1, 0, 3, 8 - i, 1);
        }
    }

    private static void lifeSetLater() {
        begin("LIFE is that at the end of a tick");
        read("link 28 1 1;send 900 0");
        go("forge", 0, 8, 8, 1, true);
        go("pass", 10);
        // more than LIFE is past, but only a tick gives it up
        due(60, "setLife", 3);
        due(1, "size", 11);
        due(1, "endIn", 0);
        go("setLife", 200);
        due(190, "endIn", 0);
        go("pass", 189);
        due(1, "size", 11);
        go("setLife", 199);
        go("pass", 1);
        rowOf("datagram", 0, 900, 0, 0, 1, 0, 3, 200, 1);
    }

    private static void piecesAheadOfLife() {
        begin("a piece that comes in the last tick of LIFE is taken");
        read("link 28 5 0;life 5;send 16 0");
        due(8, "forge", 0, 8, 8, 1, true);
        due(1, "pass", 5);
        rowOf("datagram", 0, 16, 0, 0, 1, 0, 2, 5, 0);
        begin("one that comes a tick later is a stray");
        read("link 28 6 0;life 5;send 16 0");
        due(8, "forge", 0, 8, 8, 1, true);
        due(0, "pass", 6);
        rowOf("datagram", 0, 16, 0, 0, 1, 0, 3, 5, 1);
        due(2, "account", 6);
        begin("a heap that begins in a tick stays for LIFE 1 until the next one");
        read("link 28 5 2;life 1;send 16 0");
        due(0, "pass", 5);
        rowOf("heap", 0, 5, -1, 8, 1, 0, 1, 8);
        due(0, "pass", 1);
        rowOf("datagram", 0, 16, 0, 0, 1, 0, 3, 6, 1);
    }

    private static void notesAheadOfLife() {
        begin("a note that comes in the last tick of LIFE has the datagram sent again");
        read("link 100 5 0;link 60 1 0;life 10;send 80 0 firm");
        go("forge", 0, 8, 8, 1, true);
        due(10, "endIn", 0);
        go("pass", 10);
        rowOf("datagram", 0, 80, 0, 1, 2, 0, 3, 10, 1, 2);
        begin("one that comes a tick later does not");
        read("link 100 5 0;link 60 1 0;life 9;send 80 0 firm");
        go("forge", 0, 8, 8, 1, true);
        go("pass", 10);
        rowOf("datagram", 0, 80, 0, 1, 1, 0, 3, 9, 1, 0);
        due(60, "size", 5);
    }

    private static void packetsAheadOfNotes() {
        begin("the packets are handled ahead of the notes");
        read("link 100 5 0;link 100 5 0;link 60 1 0");
        // the firm one is dropped at 10, its note comes at 20; the other one comes at 20
        due(0, "send", 80, 9, true);
        go("setSize", 2, 100);
        go("pass", 8);
        go("setSize", 2, 60);
        go("pass", 1);
        due(2, "again", 0);
        go("pass", 1);
        due(1, "size", 9);
        go("setSize", 2, 100);
        go("pass", 9);
        // at 20 the second piece comes to the receiver, then the note
        due(0, "datagram", 0, 5);
        due(1, "size", 8);
        due(1, "size", 9);
        due(20, "packet", 0, 1);
        due(100, "pathIn", 0);
        due(60, "pathIn", 1);
        due(1, "handedIn", 0);
        due(1, "pass", 1);
        due(60, "size", 5);
        rowOf("datagram", 0, 80, 9, 1, 2, 0, 1, 20, 0, 0);

        begin("an answer to a probe and what is put on the link 0 then");
        read("link 100 1 0");
        go("probe", 100);
        go("pass", 1);
        row("size", 1, 0, 1, 60, 0, 100, 27, -1, 0, 0, 1);
        go("pass", 1);
        row("size", 1, 0, 2, 60, 0, 100, 100, -1, 0, 0, 0);
    }

    private static void linksInOrder() {
        begin("packets by links, those of one link in the order in which they were put on it");
        read("link 500 2 0;link 500 1 0;link 500 1 0;send 9 0;send 9 1");
        go("pass", 2);
        go("send", 9, 2, false);
        go("pass", 1);
        go("send", 9, 3, false);
        go("pass", 1);
        // the link 1 has datagram 2 from 4 on, the receiver the first ones
        due(2, "size", 13);
        rowOf("packet", 0, 0, 5, 3, 0, 29, 0, 0);
        rowOf("packet", 1, 1, 5, 2, 0, 29, 0, 0);
        go("pass", 1);
        rowOf("packet", 0, 1, 6, 3);
        rowOf("packet", 1, 2, 6, 2);
        begin("a packet moves by one link in a tick");
        read("link 500 1 0;link 500 1 0;link 500 1 0;send 9 0");
        go("pass", 1);
        rowOf("packet", 0, 1, 2, 0);
        go("pass", 1);
        rowOf("packet", 0, 2, 3, 0);
        due(1, "pass", 1);
    }

    private static void notesInOrder() {
        begin("notes come in the order in which they were made");
        read("link 1500 3 0;link 200 2 0;link 100 9 0;send 900 1 firm;send 150 2 firm");
        // 920 is dropped at 3, its note comes at 6; 170 goes on, is dropped at 5, its note comes at 10
        go("pass", 6);
        due(200, "size", 5);
        due(2, "datagram", 0, 3);
        due(1, "datagram", 1, 3);
        go("pass", 4);
        due(100, "size", 5);
        due(2, "datagram", 1, 3);

        begin("at one TIME the one that was made first comes first");
        read("link 1500 5 0;link 300 5 0;link 100 9 0");
        // of the node 2, made at 10, at the sender at 20; of the node 1, made at 15, at 20, too
        go("send", 150, 1, true);
        go("pass", 10);
        due(1, "size", 9);
        go("send", 500, 2, true);
        go("setSize", 1, 90);
        go("pass", 5);
        due(2, "size", 9);
        go("pass", 5);
        due(90, "size", 5);
        // both tell less than what was told ahead of them
        due(2, "datagram", 0, 3);
        due(2, "datagram", 1, 3);
        // the first by PATH 100: 80 and 70 bytes; then the second by PATH 90
        rowOf("packet", 0, 0, 25, 0, 0, 100, 1, 1);
        rowOf("packet", 1, 0, 25, 0, 80, 90, 0, 1);
        rowOf("packet", 2, 0, 25, 1, 0, 84, 1, 1);
        due(0, "size", 9);
        begin("the other way round the second one tells nothing less");
        read("link 1500 5 0;link 300 5 0;link 90 9 0");
        go("send", 150, 1, true);
        go("pass", 10);
        go("send", 500, 2, true);
        go("setSize", 1, 100);
        go("pass", 10);
        due(90, "size", 5);
        due(2, "datagram", 0, 3);
        due(1, "datagram", 1, 3);
    }

    // ---- TIME ----

    private static void toTime(int time) {
        int left = time;
        while (left > 0) {
            go("pass", Math.min(left, 500));
            left -= Math.min(left, 500);
        }
        due(time, "size", 2);
    }

    private static void lastTime() {
        begin("TIME is 9999 at most");
        toTime(9999);
        due(-3, "pass", 1);
        due(-3, "pass", 500);
        due(8, "size", 15);
        due(7, "undo");
        due(9500, "size", 2);
        due(-3, "pass", 500);
        due(0, "pass", 499);
        due(9999, "size", 2);
        due(7, "undo");
        go("pass", 498);
        due(-3, "pass", 2);
        due(0, "pass", 1);
        due(9999, "size", 2);
        due(9999, "save");
        due(9999, "restore");
        due(0, "send", 9, 1, false);
        due(9999, "datagram", 0, 4);
        due(10000, "packet", 0, 1);
    }

    // ---- what is foretold ----

    private static void handedWithin() {
        begin("handed over behind 600 ticks at most");
        // the note comes at 500, then 300 ticks to the receiver
        read(FAR + "link 100 50 0;send 1000 1 firm");
        due(-1, "handedIn", 0);
        go("pass", 199);
        due(-1, "handedIn", 0);
        go("pass", 1);
        due(600, "handedIn", 0);
        go("pass", 1);
        due(599, "handedIn", 0);
        go("pass", 499);
        go("pass", 99);
        due(1, "handedIn", 0);
        due(0, "size", 13);
        due(1, "pass", 1);
        due(0, "handedIn", 0);
        go("pass", 1);
        due(0, "handedIn", 0);
        begin("what is given up is not handed over");
        read("link 28 2 0;send 16 0");
        go("forge", 0, 16, 8, 0, false);
        due(-1, "handedIn", 0);
        due(2, "endIn", 0);
        go("pass", 2);
        due(-1, "handedIn", 0);
        due(0, "endIn", 0);
    }

    private static void endWithin() {
        begin("not open any more behind 600 ticks at most");
        read(FAR + "link 100 50 0;send 1000 1 firm;send 9 1");
        go("forge", 1, 8, 1, 1, true);
        due(60, "endIn", 1);
        go("pass", 199);
        due(-1, "endIn", 0);
        due(0, "endIn", 1);
        go("pass", 1);
        due(600, "endIn", 0);
        begin("given up behind 600 ticks at most");
        // the second of two pieces of the second sending is lost, so that the first one waits for LIFE
        read(FAR + "link 500 50 2;life 200;send 900 1 firm");
        due(-1, "endIn", 0);
        go("pass", 399);
        due(-1, "endIn", 0);
        go("pass", 1);
        // from 400: sent again at 500, comes at 800, given up at 1000
        due(600, "endIn", 0);
        due(600, "quietIn");
        due(-1, "handedIn", 0);
        due(0, "handedBy", 200, 0);
        go("setLife", 199);
        due(599, "endIn", 0);
    }

    private static void quietWithin() {
        begin("quiet behind 600 ticks at most");
        due(0, "quietIn");
        read(FAR + "link 100 50 0");
        go("probe", 100);
        due(600, "quietIn");
        go("pass", 1);
        due(599, "quietIn");
        go("probe", 100);
        due(600, "quietIn");
        begin("quiet behind 601 ticks");
        // the note comes at 500, the pieces at 800
        read(FAR + "link 100 50 0;send 1000 1 firm");
        due(-1, "quietIn");
        go("pass", 199);
        due(-1, "quietIn");
        go("pass", 1);
        due(600, "quietIn");
        begin("a heap alone, a note alone, an answer alone");
        read("link 100 5 0;link 60 7 0;send 9 1");
        go("setEvery", 1, 1);
        go("pass", 5);
        due(0, "quietIn");
        due(1, "forge", 0, 0, 1, 1, true);
        due(60, "quietIn");
        go("undo");
        go("probe", 61);
        go("setEvery", 1, 0);
        go("pass", 9);
        row("size", 2, 1, 14, 60, 0, 100, 27, -1, 0, 1, 0, 0);
        due(1, "quietIn");
        go("probe", 60);
        go("pass", 12);
        row("size", 2, 1, 26, 60, 0, 60, 27, 61, 0, 0, 1, 0);
        due(12, "quietIn");
    }

    private static void pathWithin() {
        begin("PATH behind 0 to 600 ticks");
        read(FAR + "link 100 50 0;send 900 1 firm");
        due(1500, "pathIn", 0);
        due(1500, "pathIn", 499);
        due(100, "pathIn", 500);
        due(100, "pathIn", 600);
        due(1500, "size", 5);
        begin("PATH behind exactly 600 ticks");
        // sent again at 500, dropped again at 750, told at 1000
        read(FAR + "link 100 50 0;send 880 1 firm");
        go("pass", 399);
        go("setSize", 5, 80);
        due(1500, "pathIn", 100);
        due(100, "pathIn", 101);
        due(100, "pathIn", 600);
        go("pass", 1);
        due(1500, "pathIn", 99);
        due(100, "pathIn", 100);
        due(100, "pathIn", 599);
        due(80, "pathIn", 600);
        due(1500, "size", 5);
        due(400, "size", 2);
        go("pass", 500);
        go("pass", 99);
        due(100, "size", 5);
        due(2, "datagram", 0, 3);
        go("pass", 1);
        due(80, "size", 5);
        due(3, "datagram", 0, 3);
    }

    private static void handedByWithin() {
        begin("handed over within 600 ticks");
        read(FAR + "link 100 50 0;send 1000 1 firm;send 9 1;send 9 2");
        go("forge", 1, 0, 9, 1, false);
        due(2, "handedBy", 60, 0);
        go("pass", 199);
        due(2, "handedBy", 60, 0);
        go("pass", 1);
        due(3, "handedBy", 60, 0);
    }

    private static void behindTheEnd() {
        begin("what is foretold looks beyond 9999");
        read("link 100 50 0;link 60 50 0");
        toTime(9999);
        go("send", 60, 1, true);
        go("send", 9, 2, false);
        due(-3, "pass", 1);
        // the note at 100, the receiver at 200
        due(200, "handedIn", 0);
        due(100, "handedIn", 1);
        due(200, "endIn", 0);
        due(200, "quietIn");
        due(100, "pathIn", 99);
        due(60, "pathIn", 100);
        due(2, "handedBy", 60, 0);
        go("forge", 1, 8, 8, 1, true);
        due(200, "quietIn");
        due(60, "endIn", 1);
        due(9999, "size", 2);
        due(0, "size", 13);
        due(2, "size", 8);
    }

    private static void now() {
        begin("0 if it is so now");
        due(0, "quietIn");
        due(576, "pathIn", 0);
        go("send", 9, 1, false);
        due(1, "quietIn");
        due(1, "handedIn", 0);
        due(1, "endIn", 0);
        go("undo");
        due(0, "send", 9, 1, false);
        due(0, "forge", 0, 0, 1, 1, false);
        due(0, "handedIn", 0);
        due(0, "endIn", 0);
        due(1, "quietIn");
        due(1, "handedBy", 1, 0);
        due(1, "handedBy", 200, 2);
        go("pass", 1);
        due(0, "quietIn");
        due(1, "handedBy", 1, 0);
    }

    private static void otherLifeAndPolicy() {
        begin("another LIFE and POLICY from now on");
        read("link 28 5 0;send 16 0;send 16 9");
        go("forge", 0, 8, 8, 1, true);
        go("forge", 1, 8, 7, 1, true);
        due(2, "handedBy", 5, 0);
        due(0, "handedBy", 4, 0);
        due(2, "handedBy", 200, 1);
        due(0, "handedBy", 200, 2);
        due(0, "handedBy", 5, 2);
        go("undo");
        go("forge", 1, 8, 7, 1, true);
        go("pass", 4);
        due(2, "handedBy", 5, 1);
        // at the next tick both are older than 4, but their pieces come ahead of that
        due(2, "handedBy", 4, 1);
        due(2, "handedBy", 1, 1);
        row("size", 1, 2, 4, 60, 0);
        due(2, "pass", 1);
        due(2, "handedBy", 1, 2);
    }
}
