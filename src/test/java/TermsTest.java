import java.util.Arrays;

/** The edges that the sections 1 to 3 of the terms name: the path, the sender, the receiver. */
public final class TermsTest extends Bench {
    private static final String ONE_LINK = "link 1500 50 0";

    private TermsTest() { }

    public static void main(String[] args) {
        fits();
        cuts();
        cutsAgain();
        everyLost();
        delays();
        noteTimes();
        answerTimes();
        timesAsBegun();
        firstPath();
        looseOnes();
        firmOnes();
        tries();
        triesWithin();
        lessOnly();
        notOpenAnyMore();
        probes();
        forgetting();
        strays();
        begunHeaps();
        lastPieces();
        piecesBehindEnd();
        oddsCountNoOverlap();
        policies();
        handedOver();
        fillings();
        holes();
        widths();
        burdens();
        bestLongs();
        end("the edges of the terms hold");
    }

    // ---- section 1 ----

    private static void fits() {
        begin("a packet that has not more bytes than SIZE goes on the link");
        read("link 100 1 0;link 60 3 0");
        due(1, "pieces", 80, 0);
        due(2, "pieces", 81, 0);
        go("send", 80, 0, false);
        due(1, "size", 8);
        go("send", 81, 0, false);
        due(3, "size", 8);
        due(1, "link", 0, 6);
        due(4, "probe", 100);
        due(4, "probe", 101);
        due(1, "link", 0, 7);
        go("send", 40, 0, true);
        due(5, "size", 8);
        go("send", 41, 0, true);
        due(6, "size", 8);
        go("pass", 1);
        // 40 40, 40 40, 1, 40; the probe and the firm one of 61 bytes are dropped
        rowOf("link", 1, 60, 3, 0, 6, 6, 0, 2, 2, 4 * 60 + 21 + 60);
        go("probe", 60);
        go("probe", 61);
        go("pass", 1);
        rowOf("link", 1, 60, 3, 0, 7, 7, 0, 2, 3);
    }

    /** The pieces of one datagram on a link of a SIZE, as the text of their LONGs. */
    private static void cut(int size, int bytes, int... wanted) {
        begin("a datagram of " + bytes + " bytes is cut by " + size);
        read("link " + size + " 9 0;send " + bytes + " 0;send " + bytes + " 0 firm");
        due(wanted.length * 2, "size", 8);
        due(wanted.length, "datagram", 0, 8);
        due(wanted.length, "pieces", bytes, 0);
        due(bytes + 20 * wanted.length, "burden", bytes);
        due(wanted.length > 1 ? 1 : 0, "link", 0, 6);
        for (int i = 0; i < 2 * wanted.length; i++) {
            int offset = 0;
            for (int k = 0; k < i % wanted.length; k++) {
                offset += wanted[k];
            }
            boolean isLast = i % wanted.length == wanted.length - 1;
            int whose = i / wanted.length;
            rowOf("packet", i, 0, 9, whose, offset, wanted[i % wanted.length] + 20, isLast ? 0 : 1, whose);
        }
    }

    private static void cuts() {
        cut(28, 1, 1);
        cut(28, 8, 8);
        cut(28, 9, 8, 1);
        cut(28, 16, 8, 8);
        cut(28, 17, 8, 8, 1);
        // 15 bytes go in one, though pieces have 8
        cut(35, 15, 15);
        cut(35, 16, 8, 8);
        cut(35, 23, 8, 15);
        cut(35, 24, 8, 8, 8);
        cut(36, 16, 16);
        cut(36, 17, 16, 1);
        cut(36, 32, 16, 16);
        cut(36, 33, 16, 16, 1);
        cut(43, 23, 23);
        cut(43, 24, 16, 8);
        cut(43, 39, 16, 23);
        cut(44, 24, 24);
        cut(44, 25, 24, 1);
        cut(576, 556, 556);
        cut(576, 557, 552, 5);
        cut(576, 1000, 552, 448);
        cut(1019, 1000, 992, 8);
        cut(1020, 1000, 1000);
        cut(1500, 1000, 1000);
    }

    private static void cutsAgain() {
        begin("pieces that are cut again: MORE of the last one is that of the piece");
        read("link 100 1 0;link 28 1 0;send 92 0");
        go("pass", 1);
        // 80 and 12 bytes: ten of 8, then 8 and 4
        due(12, "size", 8);
        for (int i = 0; i < 12; i++) {
            rowOf("packet", i, 1, 2, 0, 8 * i, i < 11 ? 28 : 24, i < 11 ? 1 : 0, 0);
        }
        due(2, "link", 1, 6);
        due(1, "link", 0, 6);
        due(3, "account", 3);
        due(12, "pieces", 92, 1);
        due(92 + 40 + 92 + 240, "burden", 92);
        due(1, "pass", 1);
        due(1, "datagram", 0, 5);
    }

    private static void everyLost() {
        begin("if EVERY is not 0 and the count is divisible by it, the packet is lost");
        read("link 28 3 4;link 28 1 1;send 72 0");
        // pieces 0 to 8, of which the counts 4 and 8 are lost
        rowOf("link", 0, 28, 3, 4, 9, 7, 2, 1, 0, 9 * 28);
        due(24 - 8, "packet", 2, 3);
        due(32, "packet", 3, 3);
        due(48, "packet", 5, 3);
        due(64, "packet", 6, 3);
        due(0, "packet", 6, 5);
        go("pass", 3);
        rowOf("link", 1, 28, 1, 1, 7, 0, 7, 0, 0, 7 * 28);
        row("account", 16, 9, 0, 1, 0, 0);
        due(0, "gap");
        due(0, "quietIn");
    }

    private static void delays() {
        begin("a packet is at the next node DELAY ticks later");
        read("link 500 1 0;link 500 50 0;send 9 0");
        due(1, "packet", 0, 1);
        due(1, "link", 0, 4);
        go("pass", 1);
        due(51, "packet", 0, 1);
        due(0, "link", 0, 4);
        due(1, "link", 1, 4);
        go("pass", 49);
        due(1, "size", 8);
        due(0, "size", 13);
        due(1, "pass", 1);
        due(0, "size", 8);
        due(51, "datagram", 0, 6);
    }

    private static void noteTimes() {
        begin("a note from the node 0 comes at once");
        read("link 100 50 0");
        go("probe", 101);
        row("size", 1, 0, 0, 60, 0, 100, 27, 101, 0, 0, 0);
        due(1, "account", 8);
        begin("a note from the node 1 comes as late as DELAY of the link 0");
        read("link 100 1 0;link 60 50 0");
        go("probe", 61);
        go("pass", 1);
        row("size", 2, 0, 1, 60, 0, 100, 27, -1, 0, 1, 0);
        go("pass", 1);
        row("size", 2, 0, 2, 60, 0, 60, 27, 61, 0, 0, 0);
        begin("a note from the node 5 comes as late as all DELAYs ahead of it");
        read("link 100 1 0;link 100 2 0;link 100 3 0;link 100 4 0;link 100 50 0;link 60 50 0");
        go("probe", 61);
        go("pass", 59);
        due(1, "size", 8);
        go("pass", 1);
        row("size", 6, 0, 60, 60, 0, 100, 27, -1, 0, 1, 0);
        due(60, "quietIn");
        go("pass", 59);
        due(100, "size", 5);
        due(1, "size", 9);
        go("pass", 1);
        row("size", 6, 0, 120, 60, 0, 60, 27, 61, 0, 0, 0);
    }

    private static void answerTimes() {
        begin("an answer is at the sender as late as all DELAYs together");
        read("link 100 1 0;link 60 50 0;link 60 7 0");
        go("probe", 60);
        go("pass", 57);
        row("size", 3, 0, 57, 60, 0, 100, 27, -1, 1, 0, 0);
        go("pass", 1);
        row("size", 3, 0, 58, 60, 0, 100, 27, -1, 0, 0, 1);
        go("pass", 57);
        row("size", 3, 0, 115, 60, 0, 100, 27, -1, 0, 0, 1);
        due(0, "account", 9);
        go("pass", 1);
        row("size", 3, 0, 116, 60, 0, 100, 60, -1, 0, 0, 0);
        due(1, "account", 9);
        due(0, "account", 5);
    }

    private static void timesAsBegun() {
        begin("a note tells SIZE as it was when it began");
        read("link 100 4 0;link 60 1 0;send 80 0 firm");
        go("setSize", 1, 50);
        go("pass", 4);
        go("setSize", 1, 40);
        go("setSize", 0, 90);
        due(1, "size", 9);
        due(50, "pathIn", 4);
        go("pass", 4);
        due(50, "size", 5);
        begin("a packet that is on a link stays on it");
        read("link 100 4 0;send 80 0;send 80 1 firm");
        go("setSize", 0, 28);
        go("setEvery", 0, 1);
        due(2, "pass", 4);
        row("account", 2, 0, 0, 0, 0, 2, 0, 0, 0);
    }

    // ---- section 2 ----

    private static void firstPath() {
        begin("PATH is SIZE of the link 0 at first, and stays as that is set");
        due(576, "size", 5);
        read("link 28 1 0;link 1500 1 0");
        due(28, "size", 5);
        read("link 1500 1 0;link 28 1 0;send 9 1 firm");
        due(1500, "size", 5);
        go("setSize", 0, 28);
        due(1500, "size", 5);
        go("setSize", 0, 1000);
        due(1500, "size", 5);
    }

    private static void looseOnes() {
        begin("all of a loose datagram is put on the link 0, whatever PATH is");
        read("link 500 1 0;link 60 1 0");
        go("probe", 100);
        go("pass", 2);
        due(60, "size", 5);
        go("send", 480, 0, false);
        rowOf("packet", 0, 0, 3, 0, 0, 500, 0, 0);
        due(1, "size", 8);
        go("send", 480, 0, true);
        // by PATH 60 pieces of 40 bytes
        due(13, "size", 8);
        rowOf("packet", 12, 0, 3, 1, 440, 60, 0, 1);
    }

    private static void firmOnes() {
        begin("a firm datagram is cut by PATH, which no account of packets that are cut tells");
        read("link 100 1 0;send 80 0 firm;send 81 0 firm");
        due(1, "datagram", 0, 8);
        due(2, "datagram", 1, 8);
        rowOf("packet", 2, 0, 1, 1, 80, 21, 0, 1);
        row("account", 3, 0, 0, 0, 0);
        due(0, "link", 0, 6);

        begin("also if all of it could go in one");
        read("link 60 1 0");
        go("setSize", 0, 500);
        go("send", 80, 0, true);
        rowOf("packet", 0, 0, 1, 0, 0, 60, 1, 1);
        rowOf("packet", 1, 0, 1, 0, 40, 60, 0, 1);
        due(2, "size", 8);
        go("send", 40, 0, true);
        due(3, "size", 8);

        begin("all by PATH as it was ahead of the first piece");
        read("link 500 1 0");
        go("setSize", 0, 100);
        due(0, "send", 1000, 0, true);
        // 480 is dropped: by 100 all is sent again; then 480 is dropped, and 40 goes on
        due(2, "datagram", 0, 3);
        row("account", 14, 0, 0, 0, 2, 0, 0, 0, 2);
        due(100, "size", 5);
        due(14, "size", 8);
        rowOf("packet", 0, 0, 1, 0, 0, 100, 1, 1);
        rowOf("packet", 12, 0, 1, 0, 960, 60, 0, 1);
        rowOf("packet", 13, 0, 1, 0, 960, 60, 0, 1);
        due(1, "pass", 1);
        due(1, "account", 6);
    }

    private static void tries() {
        begin("TRIES becomes 1 greater ahead of each sending");
        read("link 1500 50 0;send 9 0;send 9 0 firm");
        due(1, "datagram", 0, 3);
        due(1, "datagram", 1, 3);
        for (int i = 2; i <= 6; i++) {
            due(i, "again", 0);
            due(i, "again", 1);
        }
        due(6.0, "meanTries");
        due(0, "datagram", 1, 4);
        go("pass", 1);
        due(7, "again", 1);
        due(0, "datagram", 1, 4);
        due(7, "datagram", 1, 8);

        begin("a note has a datagram sent again that has fewer than 3 TRIES");
        read("link 1500 1 0;link 60 50 0;send 41 0 firm;send 41 1 firm;send 41 2 firm");
        go("again", 1);
        go("again", 2);
        go("again", 2);
        // only the first note tells a less size than PATH
        go("pass", 2);
        due(60, "size", 5);
        due(2, "datagram", 0, 3);
        due(2, "datagram", 1, 3);
        due(3, "datagram", 2, 3);
        due(6, "account", 8);
    }

    private static void triesWithin() {
        begin("2 TRIES: sent again, for the third time");
        read("link 1500 1 0;link 60 50 0;send 41 0 firm");
        go("again", 0);
        go("pass", 2);
        due(3, "datagram", 0, 3);
        due(60, "size", 5);
        begin("3 TRIES: not sent again");
        read("link 1500 1 0;link 60 50 0;send 41 0 firm");
        go("again", 0);
        go("again", 0);
        go("pass", 2);
        due(3, "datagram", 0, 3);
        due(60, "size", 5);
        due(0, "size", 8);
        due(4, "again", 0);
        begin("3 TRIES at the node 0: not sent again");
        read("link 1500 50 0;send 80 0 firm");
        go("setSize", 0, 60);
        due(3, "again", 0);
        due(60, "size", 5);
        go("setSize", 0, 50);
        due(4, "again", 0);
        due(50, "size", 5);
        due(5, "again", 0);
        // 3 pieces of the third sending at 60; of 24 bytes: 24 24 24 8
        due(1 + 2 + 4, "datagram", 0, 8);
    }

    private static void lessOnly() {
        begin("PATH becomes the size that a note tells, if that is less");
        read("link 1500 1 0;link 61 1 0");
        go("probe", 100);
        go("send", 80, 0, true);
        go("setSize", 1, 60);
        go("pass", 1);
        go("setSize", 1, 60);
        go("send", 80, 1, true);
        go("pass", 1);
        due(60, "size", 5);
        // equal: neither less nor sent again
        due(1, "datagram", 0, 3);
        go("pass", 1);
        due(1, "datagram", 1, 3);
        due(3, "account", 8);
        // greater
        go("setSize", 1, 70);
        go("probe", 71);
        go("pass", 2);
        due(60, "size", 5);
        due(71, "size", 7);
        // less by one
        go("setSize", 1, 59);
        due(2, "again", 1);
        go("pass", 2);
        due(59, "size", 5);
        due(3, "datagram", 1, 3);
        due(1, "datagram", 0, 3);
    }

    private static void notOpenAnyMore() {
        begin("what is handed over or given up is not sent again");
        read("link 1500 3 0;link 60 50 0;send 41 9 firm;send 41 9 firm");
        go("pass", 4);
        due(0, "forge", 0, 0, 1, 0, false);
        due(0, "forge", 1, 0, 1, 9, false);
        due(2, "size", 13);
        due(2, "size", 9);
        go("pass", 2);
        due(60, "size", 5);
        due(1, "datagram", 0, 3);
        due(1, "datagram", 1, 3);
        due(0, "size", 8);
        begin("given up");
        read("link 1500 3 0;link 60 50 0;send 41 9 firm");
        go("pass", 4);
        go("forge", 0, 8, 8, 0, true);
        go("forge", 0, 0, 8, 0, false);
        due(3, "datagram", 0, 5);
        go("pass", 2);
        due(60, "size", 5);
        due(1, "datagram", 0, 3);
        due(-2, "again", 0);
    }

    private static void probes() {
        begin("HIGH becomes the size of a probe that was dropped, if it is NONE or greater");
        read("link 1000 1 0;link 500 1 0");
        due(-1, "size", 7);
        go("probe", 1100);
        due(1100, "size", 7);
        go("probe", 1101);
        due(1100, "size", 7);
        go("probe", 1100);
        due(1100, "size", 7);
        go("probe", 1099);
        due(1099, "size", 7);
        go("probe", 501);
        go("pass", 1);
        due(1099, "size", 7);
        go("pass", 1);
        due(501, "size", 7);
        due(500, "size", 5);
        begin("LOW becomes the size of a probe that is answered, if that is greater");
        read("link 1000 1 0");
        due(27, "size", 6);
        go("probe", 28);
        go("pass", 1);
        due(27, "size", 6);
        go("pass", 1);
        due(28, "size", 6);
        go("probe", 500);
        go("pass", 2);
        due(500, "size", 6);
        go("probe", 499);
        go("pass", 2);
        due(500, "size", 6);
        go("probe", 501);
        go("pass", 2);
        due(501, "size", 6);
        due(4, "account", 9);
        begin("the note of a piece does not change HIGH");
        read("link 1000 1 0;link 500 1 0;send 900 1 firm");
        go("pass", 2);
        due(500, "size", 5);
        due(-1, "size", 7);
        begin("LOW can be greater than HIGH, and then there is no probe next");
        go("probe", 576);
        go("pass", 2);
        go("setSize", 0, 100);
        go("probe", 200);
        row("size", 1, 0, 2, 60, 0, 100, 576, 200);
        due(-1, "nextProbe");
        due(false, "isFound");
    }

    private static void forgetting() {
        begin("the sender forgets: PATH is SIZE of the link 0, LOW 27, HIGH NONE");
        read("link 1500 1 0;link 60 1 0");
        go("probe", 60);
        go("probe", 61);
        go("pass", 4);
        row("size", 2, 0, 4, 60, 0, 60, 60, 61);
        due(true, "isFound");
        due(-1, "nextProbe");
        go("probe", 61);
        due(1500, "forget");
        row("size", 2, 0, 4, 60, 0, 1500, 27, -1, 1);
        due(1500, "nextProbe");
        due(false, "isFound");
        // what was on its way comes as ever
        go("pass", 2);
        row("size", 2, 0, 6, 60, 0, 60, 27, 61, 0);
        due((27 + 61) / 2, "nextProbe");
        due(1, "account", 9);
    }

    // ---- section 3 ----

    private static void strays() {
        begin("a piece of a datagram that is not open is a stray, and nothing else is done");
        read(ONE_LINK + ";send 9 0;send 9 0");
        due(0, "forge", 0, 0, 9, 0, false);
        rowOf("datagram", 0, 9, 0, 0, 1, 0, 2, 0, 0);
        due(0, "account", 6);
        due(0, "forge", 0, 0, 5, 0, false);
        due(0, "forge", 0, 8, 5, 1, true);
        rowOf("datagram", 0, 9, 0, 0, 1, 0, 2, 0, 0);
        due(0, "size", 11);
        go("forge", 1, 8, 8, 0, true);
        due(8, "forge", 1, 8, 8, 0, true);
        row("account", 2, 0, 0, 0, 0, 5, 2, 8, 0, 0, 5, 9);
    }

    private static void begunHeaps() {
        begin("START is the TIME at which the first piece came");
        read("link 28 3 0;send 17 0");
        due(-1, "heap", 0, 0);
        go("pass", 2);
        go("forge", 0, 80, 8, 0, true);
        due(2, "heap", 0, 0);
        rowOf("heap", 0, 2, -1, 8, 2, 0, 1, 88);
        go("pass", 1);
        // the last piece tells an END that is less than the forged bytes
        rowOf("datagram", 0, 17, 0, 0, 1, 0, 3, 3, 3, 0);
        begin("a heap begins anew with each datagram");
        read("link 28 3 0;send 17 0;send 900 0");
        go("forge", 0, 80, 8, 9, true);
        go("forge", 0, 80, 8, 9, true);
        go("forge", 0, 0, 8, 9, false);
        go("setEvery", 0, 1);
        go("pass", 1);
        due(1, "forge", 1, 40, 1, 8, true);
        rowOf("heap", 1, 1, -1, 1, 2, 0, 1, 41);
        due(-1, "heapByte", 1, 80);
        due(8, "heapByte", 1, 40);
    }

    /** Forges pieces (offset, LONG, and 1 for MORE) of datagram 0, and tells what it is then. */
    private static void forged(int reason, int... pieces) {
        fresh();
        read(ONE_LINK + ";send 900 0");
        for (int i = 0; i + 2 < pieces.length; i += 3) {
            due(0, "datagram", 0, 5);
            go("forge", 0, pieces[i], pieces[i + 1], 7, pieces[i + 2] == 1);
        }
        due(reason, "datagram", 0, 7);
        due(reason > 0 ? 3 : 0, "datagram", 0, 5);
        due(reason > 0 ? 0 : 1, "size", 11);
        due(pieces.length / 3, "account", 5);
        due(reason > 0 ? -1 : pieces.length / 3, "heap", 0, 5);
    }

    private static void lastPieces() {
        begin("a piece without MORE: END is another number than last");
        forged(0, 8, 8, 0, 8, 8, 0);
        forged(3, 8, 8, 0, 8, 9, 0);
        forged(3, 8, 8, 0, 8, 7, 0);
        forged(3, 8, 8, 0, 16, 8, 0);
        forged(3, 8, 8, 0, 0, 1, 0);
        forged(0, 16, 8, 0, 8, 16, 0);
        begin("a piece without MORE: a byte at last or behind it is known");
        forged(0, 8, 8, 1, 8, 8, 0);
        forged(3, 8, 9, 1, 8, 8, 0);
        forged(3, 16, 1, 1, 8, 8, 0);
        forged(3, 24, 8, 1, 8, 8, 0);
        forged(3, 992, 200, 1, 8, 8, 0);
        forged(3, 992, 200, 1, 984, 200, 0);
        forged(0, 992, 192, 1, 984, 200, 0);
        forged(3, 992, 193, 1, 984, 200, 0);
        forged(0, 992, 200, 1, 992, 200, 0);
        forged(0, 8, 7, 1, 8, 8, 0);
    }

    private static void piecesBehindEnd() {
        begin("a piece with MORE: END is not NONE and less than last");
        forged(0, 8, 8, 0, 8, 8, 1);
        forged(0, 8, 8, 0, 8, 7, 1);
        forged(3, 8, 8, 0, 8, 9, 1);
        forged(3, 8, 8, 0, 16, 1, 1);
        forged(3, 8, 8, 0, 992, 200, 1);
        forged(0, 8, 8, 0, 0, 7, 1);
        forged(0, 8, 8, 1, 992, 200, 1);
        forged(0, 992, 200, 1, 8, 8, 1);
        forged(3, 8, 8, 0, 0, 17, 1);
    }

    private static void oddsCountNoOverlap() {
        begin("what comes with another end is no overlap");
        read(ONE_LINK + ";send 900 0");
        go("forge", 0, 8, 8, 7, false);
        go("forge", 0, 8, 4, 9, true);
        due(4, "account", 7);
        due(0, "forge", 0, 8, 9, 7, true);
        row("account", 1, 0, 0, 0, 0, 3, 0, 4, 0, 0, 3, 0);
    }

    private static void policies() {
        begin("by POLICY 0 a known byte stays as it is");
        read(ONE_LINK + ";send 900 0");
        go("forge", 0, 8, 8, 7, true);
        due(12, "forge", 0, 8, 12, 9, true);
        due(7, "heapByte", 0, 8);
        due(7, "heapByte", 0, 15);
        due(9, "heapByte", 0, 16);
        due(8, "account", 7);
        due(8, "heap", 0, 4);
        begin("by 1 it becomes that of the piece");
        read(ONE_LINK + ";policy 1;send 900 0");
        go("forge", 0, 8, 8, 7, true);
        due(8, "forge", 0, 8, 7, 9, true);
        due(9, "heapByte", 0, 8);
        due(9, "heapByte", 0, 14);
        due(7, "heapByte", 0, 15);
        due(7, "account", 7);
        begin("by 2 the datagram is given up if any of them is another one");
        read(ONE_LINK + ";policy 2;send 900 0");
        go("forge", 0, 8, 8, 7, true);
        due(16, "forge", 0, 8, 16, 7, true);
        go("forge", 0, 24, 1, 8, true);
        due(17, "heap", 0, 2);
        // as it comes the byte 24 is not looked at
        due(25, "forge", 0, 0, 24, 7, true);
        due(24, "account", 7);
        due(0, "forge", 0, 0, 25, 7, true);
        rowOf("datagram", 0, 900, 0, 0, 1, 0, 3, 0, 4);
        due(24 + 25, "account", 7);
        due(0, "size", 11);
        begin("by 2 the first byte that is known is another one");
        read(ONE_LINK + ";policy 2;send 900 0;send 1 9");
        go("forge", 0, 8, 1, 7, true);
        due(0, "forge", 0, 8, 8, 6, true);
        rowOf("datagram", 0, 900, 0, 0, 1, 0, 3, 0, 4);
        // without overlaps POLICY 2 does nothing
        due(0, "forge", 1, 0, 1, 9, false);
        due(1, "datagram", 1, 5);
        begin("POLICY is that at which a piece comes");
        read("link 28 2 0;policy 2;send 8 0");
        due(8, "forge", 0, 0, 8, 1, true);
        go("setPolicy", 1);
        due(1, "pass", 2);
        due(1, "datagram", 0, 5);
        begin("what is given up for its bytes is so also if it would be whole");
        read(ONE_LINK + ";policy 2;send 8 0");
        go("forge", 0, 0, 1, 1, true);
        go("forge", 0, 0, 8, 2, false);
        rowOf("datagram", 0, 8, 0, 0, 1, 0, 3, 0, 4);
    }

    private static void handedOver() {
        begin("handed over if each byte below END is known");
        read(ONE_LINK + ";send 1 5;send 1 5;send 1 5;send 2 5;send 2 5");
        due(0, "forge", 0, 0, 1, 5, false);
        rowOf("datagram", 0, 1, 5, 0, 1, 0, 1, 0, 0);
        due(0, "forge", 1, 0, 1, 4, false);
        rowOf("datagram", 1, 1, 5, 0, 1, 0, 2, 0, 0);
        // END is another number than LONG, though the bytes are its own
        due(0, "forge", 2, 0, 2, 5, false);
        rowOf("datagram", 2, 1, 5, 0, 1, 0, 2, 0, 0);
        due(0, "forge", 3, 0, 1, 5, false);
        rowOf("datagram", 3, 2, 5, 0, 1, 0, 2, 0, 0);
        due(1 + 1 + 2 + 1, "account", 11);
        due(0.25f, "trueShare");
        due(8, "forge", 4, 8, 8, 5, false);
        due(15, "forge", 4, 0, 7, 5, true);
        due(0, "datagram", 4, 5);
        due(1, "missing", 4);
        due(0, "forge", 4, 0, 8, 5, true);
        due(2, "datagram", 4, 5);
        due(0.2f, "trueShare");
        begin("a datagram that is handed over has no gap");
        read(ONE_LINK + ";send 9 5");
        go("forge", 0, 8, 1, 5, false);
        due(8, "missing", 0);
        due(0, "hole", 0, 0, 0);
        due(7, "forge", 0, 0, 6, 5, true);
        due(6, "hole", 0, 0, 0);
        due(0, "forge", 0, 0, 8, 5, true);
        due(2, "datagram", 0, 5);
        rowOf("heap", 0, -1, -1, -1, -1, -1, -1, -1);
        due(-1, "missing", 0);
        due(-1, "hole", 0, 0, 0);
        due(false, "fills", 0, 0, 9);
        written("x", "writeHeap", 0);
        begin("true if all bytes are its own");
        read("link 28 1 0;send 24 5;send 24 5;send 24 5");
        // one forged byte that comes first, and stays
        go("forge", 0, 16, 1, 0, true);
        go("forge", 1, 0, 1, 0, true);
        go("forge", 2, 0, 1, 5, true);
        due(3, "pass", 1);
        due(2, "datagram", 0, 5);
        due(2, "datagram", 1, 5);
        due(1, "datagram", 2, 5);
        due(72, "account", 11);
        due(3, "account", 7);
    }

    private static void fillings() {
        begin("whether a piece fills the last hole");
        read(ONE_LINK + ";send 900 0");
        due(false, "fills", 0, 0, 1000);
        go("forge", 0, 16, 8, 1, true);
        due(false, "fills", 0, 0, 1000);
        due(-1, "missing", 0);
        go("forge", 0, 40, 8, 1, false);
        due(32, "missing", 0);
        due(true, "fills", 0, 0, 40);
        due(false, "fills", 0, 0, 39);
        due(false, "fills", 0, 1, 39);
        due(true, "fills", 0, 0, 48);
        go("forge", 0, 0, 16, 1, true);
        due(16, "missing", 0);
        due(true, "fills", 0, 24, 16);
        due(false, "fills", 0, 24, 15);
        due(false, "fills", 0, 25, 16);
        due(true, "fills", 0, 23, 17);
        due(false, "fills", 0, 40, 1000);
        due(false, "fills", 0, 1000, 1);
        go("forge", 0, 24, 15, 1, true);
        due(1, "missing", 0);
        due(true, "fills", 0, 39, 1);
        due(false, "fills", 0, 38, 1);
        due(false, "fills", 0, 40, 1);
        due(true, "fills", 0, 38, 2);
        go("forge", 0, 32, 8, 1, true);
        due(false, "fills", 0, 39, 1);
        due(-1, "missing", 0);
        begin("a hole that ends at 1192");
        read(ONE_LINK + ";send 900 0");
        go("forge", 0, 992, 200, 1, false);
        go("forge", 0, 0, 192, 1, true);
        due(800, "missing", 0);
        due(true, "fills", 0, 192, 800);
        due(false, "fills", 0, 192, 799);
        due(true, "fills", 0, 192, 1000);
        due(false, "fills", 0, 193, 1000);
    }

    private static void holes() {
        begin("holes are below END, or below the greatest known byte; one more has no end");
        read(ONE_LINK + ";send 900 0");
        due(-1, "hole", 0, 0, 0);
        go("forge", 0, 0, 8, 1, true);
        rowOf("heap", 0, 0, -1, 8, 1, 0, 1, 8);
        due(8, "hole", 0, 0, 0);
        due(-1, "hole", 0, 0, 1);
        due(-1, "hole", 0, 1, 0);
        go("forge", 0, 16, 8, 1, true);
        rowOf("heap", 0, 0, -1, 16, 2, 0, 2, 24);
        due(8, "hole", 0, 0, 0);
        due(16, "hole", 0, 0, 1);
        due(24, "hole", 0, 1, 0);
        due(-1, "hole", 0, 1, 1);
        written("0-7,16-23/?", "writeHeap", 0);
        // END at the greatest known byte and 1: no hole behind it
        go("forge", 0, 16, 8, 1, false);
        rowOf("heap", 0, 0, 24, 16, 1, 8, 3, 24);
        due(8, "hole", 0, 0, 0);
        due(16, "hole", 0, 0, 1);
        due(-1, "hole", 0, 1, 0);
        due(-1, "hole", 0, 1, 1);
        written("0-7,16-23/24", "writeHeap", 0);
        go("forge", 0, 8, 1, 1, true);
        due(9, "hole", 0, 0, 0);
        due(7, "missing", 0);
        begin("a hole at the first byte");
        read(ONE_LINK + ";send 900 0");
        go("forge", 0, 8, 1, 1, false);
        due(0, "hole", 0, 0, 0);
        due(8, "hole", 0, 0, 1);
        due(-1, "hole", 0, 1, 0);
        written("8-8/9", "writeHeap", 0);
    }

    private static int number(String name, int... arguments) {
        Object[] boxed = Arrays.stream(arguments).boxed().toArray();
        return Integer.parseInt(call(name, boxed));
    }

    /** What pieces() and burden() tell is what is counted on the links as a datagram is sent. */
    private static void burdens() {
        String[] paths = {"link 576 1 0", "link 28 1 0;link 1500 1 0;link 29 1 0", "link 1020 2 0;link 100 1 0;link 61 3 0",
            "link 60 1 0;link 100 1 0;link 35 1 0;link 36 1 0;link 43 1 0;link 44 1 0", "link 1019 1 0;link 500 1 0"};
        for (String path : paths) {
            for (int bytes : new int[] {1, 8, 9, 15, 16, 40, 41, 80, 81, 555, 556, 557, 992, 993, 999, 1000}) {
                begin(bytes + " bytes on the path " + path);
                read(path);
                go("send", bytes, 0, false);
                go("pass", 20);
                int together = 0;
                for (int k = 0; k < number("size", 0); k++) {
                    due(number("link", k, 3), "pieces", bytes, k);
                    together += number("link", k, 8);
                }
                due(together, "burden", bytes);
                due(0, "account", 2);
                due(1, "datagram", 0, 5);
            }
        }
    }

    private static void bestLongs() {
        for (String path : new String[] {"link 28 1 0", "link 61 1 0;link 60 1 0", "link 100 1 0;link 37 1 0", "link 1500 1 0"}) {
            for (int bytes : new int[] {1, 2, 8, 9, 17, 40, 41, 81, 100, 123, 200}) {
                begin("the best LONG for " + bytes + " bytes on the path " + path);
                read(path);
                int best = 0;
                int least = Integer.MAX_VALUE;
                for (int each = 1; each <= bytes; each++) {
                    int rest = bytes % each;
                    int burden = bytes / each * number("burden", each) + (rest == 0 ? 0 : number("burden", rest));
                    if (burden <= least) {
                        least = burden;
                        best = each;
                    }
                }
                due(best, "bestLong", bytes);
            }
        }
        begin("the greatest such LONG, of 1 to 1000, bytes at most");
        read("link 1500 1 0");
        due(1, "bestLong", 1);
        due(2, "bestLong", 2);
        due(999, "bestLong", 999);
        due(1000, "bestLong", 1000);
        due(1000, "bestLong", 1001);
        due(1000, "bestLong", 1999);
        due(1000, "bestLong", 3000);
        due(RANGE, "bestLong", 0);
        due(RANGE, "bestLong", 3001);
    }

    private static void widths() {
        begin("the width of the path is found");
        read("link 1500 1 0;link 1499 1 0");
        due(1500, "nextProbe");
        go("probe", 1500);
        go("pass", 2);
        due(763, "nextProbe");
        go("probe", 1499);
        go("pass", 4);
        due(1499, "size", 6);
        due(1500, "size", 7);
        due(true, "isFound");
        due(-1, "nextProbe");
        begin("HIGH is LOW and 2");
        go("probe", 578);
        go("probe", 576);
        due((27 + 578) / 2, "nextProbe");
        go("pass", 2);
        due(577, "nextProbe");
        due(false, "isFound");
        go("probe", 577);
        due(-1, "nextProbe");
        due(true, "isFound");
        begin("LOW is 1500");
        read("link 1500 1 0");
        go("probe", 1499);
        go("pass", 2);
        due(1500, "nextProbe");
        due(false, "isFound");
        go("probe", 1500);
        go("pass", 2);
        due(-1, "nextProbe");
        due(true, "isFound");
        begin("HIGH is the least probe, LOW 27");
        read("link 29 1 0");
        go("setSize", 0, 28);
        go("probe", 29);
        due(28, "nextProbe");
        due(false, "isFound");
        go("probe", 28);
        go("pass", 2);
        due(-1, "nextProbe");
        due(true, "isFound");
    }
}
