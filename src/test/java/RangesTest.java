import java.util.Arrays;

/** The least and the greatest of every range, and the next number beyond each of them. */
public final class RangesTest extends Bench {
    /** Two links, a loose datagram of three packets, a firm one, and a heap of 8 forged bytes. */
    private static final String SCENE = "link 100 5 9;link 60 3 0;life 50;policy 1;send 200 7;send 30 255 firm";
    private static final String SIX_LINKS = "link 1500 1 0" + ";link 1500 1 0".repeat(5);

    private RangesTest() { }

    public static void main(String[] args) {
        whats();
        indexes();
        numbers();
        changes();
        oddOffsets();
        asTold();
        descriptions();
        orders();
        end("all ranges hold");
    }

    private static void scene() {
        fresh();
        read(SCENE);
        due(8, "forge", 0, 8, 8, 9, true);
    }

    private static Object[] with(Object[] arguments, int place, int value) {
        Object[] all = Arrays.copyOf(arguments, arguments.length);
        all[place] = value;
        return all;
    }

    /** Tries one argument of a method at both ends of its range, and beyond them. */
    private static void ends(String name, int place, int least, Object atLeast, int most, Object atMost,
            String thrown, Object... others) {
        begin(name + ", argument " + place);
        scene();
        due(atLeast, name, with(others, place, least));
        scene();
        due(atMost, name, with(others, place, most));
        for (int beyond : new int[] {least - 1, most + 1, Integer.MIN_VALUE, Integer.MAX_VALUE}) {
            scene();
            due(thrown, name, with(others, place, beyond));
        }
    }

    private static void whats() {
        ends("size", 0, 0, 2, 15, 1, RANGE, 0);
        ends("link", 1, 0, 100, 8, 310, RANGE, 0, 0);
        ends("datagram", 1, 0, 200, 8, 3, RANGE, 0, 0);
        ends("packet", 1, 0, 0, 6, 0, RANGE, 0, 0);
        ends("packet", 1, 0, 0, 6, 1, RANGE, 3, 0);
        ends("heap", 1, 0, 0, 6, 16, RANGE, 0, 0);
        ends("heap", 1, 0, -1, 6, -1, RANGE, 1, 0);
        ends("hole", 2, 0, 0, 1, 8, RANGE, 0, 0, 0);
        ends("hole", 2, 0, -1, 1, -1, RANGE, 1, 0, 0);
        ends("account", 0, 0, 4, 11, 0, RANGE, 0);
    }

    private static void indexes() {
        ends("link", 0, 0, 100, 1, 60, INDEX, 0, 0);
        ends("datagram", 0, 0, 200, 1, 30, INDEX, 0, 0);
        ends("ownByte", 0, 0, 7, 1, 255, INDEX, 0, 0);
        ends("packet", 0, 0, 100, 3, 50, INDEX, 0, 4);
        ends("heap", 0, 0, 8, 1, -1, INDEX, 0, 2);
        ends("hole", 0, 0, 8, 1, -1, INDEX, 0, 0, 1);
        ends("heapByte", 0, 0, 9, 1, -1, INDEX, 0, 8);
        ends("pieces", 1, 0, 2, 1, 3, INDEX, 100, 0);
        ends("missing", 0, 0, -1, 1, -1, INDEX, 0);
        ends("fills", 0, 0, false, 1, false, INDEX, 0, 0, 8);
        ends("handedIn", 0, 0, 8, 1, 8, INDEX, 0);
        ends("endIn", 0, 0, 8, 1, 8, INDEX, 0);
        ends("again", 0, 0, 2, 1, 2, INDEX, 0);
        ends("forge", 0, 0, 16, 1, 8, INDEX, 0, 0, 8, 1, true);
        ends("setSize", 0, 0, 100, 1, 60, INDEX, 0, 500);
        ends("setEvery", 0, 0, 9, 1, 0, INDEX, 0, 5);
        ends("writeHeap", 0, 0, 6, 1, 1, INDEX, 0);
    }

    private static void numbers() {
        // 1000 bytes are 12 pieces of 80 and one of 40; behind the narrow link 25 of 40
        ends("pieces", 0, 1, 1, 1000, 13, RANGE, 0, 0);
        ends("pieces", 0, 1, 1, 1000, 25, RANGE, 0, 1);
        ends("burden", 0, 1, 42, 1000, 1000 + 13 * 20 + 1000 + 25 * 20, RANGE, 0);
        // 38 and 75 packets are needed at least; 3 datagrams of 12 * 80 bytes and 80 + 40 have no more
        ends("bestLong", 0, 1, 1, 3000, 960, RANGE, 0);
        ends("fills", 1, 0, false, 1000, false, RANGE, 0, 0, 8);
        ends("fills", 2, 1, false, 1000, false, RANGE, 0, 0, 8);
        ends("pathIn", 0, 0, 100, 600, 100, RANGE, 0);
        // within one tick the heap is given up
        ends("handedBy", 0, 1, 1, 200, 2, RANGE, 0, 0);
        // by 0 and 1 both are handed over, by 2 the forged bytes have the first one given up
        ends("handedBy", 1, 0, 2, 2, 1, RANGE, 50, 0);
    }

    private static void changes() {
        ends("send", 0, 1, 2, 1000, 2, RANGE, 0, 0, false);
        ends("send", 1, 0, 2, 255, 2, RANGE, 1, 0, true);
        ends("probe", 0, 28, 5, 1500, 4, RANGE, 0);
        ends("forge", 1, 0, 16, 992, 16, RANGE, 0, 0, 8, 0, true);
        ends("forge", 2, 1, 9, 200, 200, RANGE, 0, 0, 0, 0, true);
        ends("forge", 3, 0, 16, 255, 16, RANGE, 0, 0, 8, 0, true);
        ends("setSize", 1, 28, 100, 1500, 100, RANGE, 0, 0);
        ends("setEvery", 1, 0, 9, 99, 9, RANGE, 0, 0);
        ends("setLife", 0, 1, 50, 200, 50, RANGE, 0);
        ends("setPolicy", 0, 0, 1, 2, 1, RANGE, 0);
        ends("pass", 0, 1, 0, 500, 2, RANGE, 0);
    }

    private static void oddOffsets() {
        begin("OFFSET of a forged piece is divisible by 8");
        scene();
        for (int offset : new int[] {1, 4, 7, 9, 15, 983, 985, 988, 991, 993, 999, 1000, -7, -8}) {
            due(RANGE, "forge", 0, offset, 8, 0, true);
        }
        due(1, "size", 15);
        due(16, "forge", 0, 984, 8, 0, true);
        due(24, "forge", 0, 976, 8, 0, true);
    }

    /** What is set to an end of its range is there then. */
    private static void asTold() {
        begin("numbers at the ends of their ranges are taken");
        scene();
        go("send", 1, 0, false);
        go("send", 1000, 255, true);
        rowOf("datagram", 2, 1, 0, 0, 1);
        // by PATH 12 pieces of 80 bytes and one of 40; the 9th and the 18th packet are lost
        rowOf("datagram", 3, 1000, 255, 1, 1, 0, 0, -1, 0, 11);
        rowOf("link", 0, 100, 5, 9, 18, 16, 2);
        go("forge", 0, 992, 200, 255, true);
        due(255, "heapByte", 0, 992);
        due(255, "heapByte", 0, 1191);
        due(-1, "heapByte", 0, 1192);
        due(1192, "heap", 0, 6);
        go("forge", 0, 0, 1, 0, true);
        due(0, "heapByte", 0, 0);
        due(-1, "heapByte", 0, 1);
        go("setSize", 0, 28);
        due(28, "link", 0, 0);
        go("setSize", 0, 1500);
        due(1500, "link", 0, 0);
        go("setEvery", 1, 99);
        due(99, "link", 1, 2);
        go("setEvery", 1, 0);
        due(0, "link", 1, 2);
        go("setLife", 1);
        due(1, "size", 3);
        go("setLife", 200);
        due(200, "size", 3);
        go("setPolicy", 2);
        due(2, "size", 4);
        go("setPolicy", 0);
        due(0, "size", 4);
        go("pass", 1);
        due(1, "size", 2);
        go("pass", 500);
        due(501, "size", 2);

        begin("a byte that there is not is NONE");
        scene();
        due(7, "ownByte", 0, 0);
        due((7 + 31 * 199) % 256, "ownByte", 0, 199);
        due(9, "heapByte", 0, 8);
        due(9, "heapByte", 0, 15);
        due(6, "writeHeap", 0);
        due((int) '8', "outputByte", 0);
        due((int) '?', "outputByte", 5);
        due(-1, "outputByte", 6);
        due(-1, "ownByte", 0, 200);
        due(-1, "heapByte", 0, 7);
        due(-1, "heapByte", 0, 16);
        due(-1, "hole", 0, 2, 0);
        for (int far : new int[] {-1, Integer.MIN_VALUE, Integer.MAX_VALUE}) {
            due(-1, "outputByte", far);
            due(-1, "ownByte", 0, far);
            due(-1, "heapByte", 0, far);
            due(-1, "hole", 0, far, 0);
            due(-1, "hole", 0, far, 1);
        }
    }

    // ---- texts ----

    /** A number of a statement at both ends of its range and beyond; what lies below 0 cannot be written. */
    private static void told(String ahead, int least, int most, String behind, String name, Object... arguments) {
        begin("description " + ahead + ".." + behind);
        for (int value : new int[] {least, most}) {
            fresh();
            read(ahead + value + behind);
            due(value, name, arguments);
        }
        fresh();
        read(ahead + String.format("%04d", least) + behind);
        due(least, name, arguments);
        badText(1, ahead.length(), ahead + String.format("%05d", least) + behind);
        badText(2, ahead.length(), ahead + (most + 1) + behind);
        badText(2, ahead.length(), ahead + "9999" + behind);
        badText(1, ahead.length(), ahead + "10000" + behind);
        if (least > 0) {
            badText(2, ahead.length(), ahead + (least - 1) + behind);
        }
        badText(1, ahead.length(), ahead + "-1" + behind);
    }

    private static void descriptions() {
        told("link ", 28, 1500, " 1 0", "link", 0, 0);
        told("link 28 ", 1, 50, " 0", "link", 0, 1);
        told("link 28 1 ", 0, 99, "", "link", 0, 2);
        told("link 28 1 0;link ", 28, 1500, " 1 0", "link", 1, 0);
        told("link 28 1 0;link 28 ", 1, 50, " 0", "link", 1, 1);
        told("link 28 1 0;link 28 1 ", 0, 99, ";send 1 1", "link", 1, 2);
        told("link 28 1 0;life ", 1, 200, "", "size", 3);
        told("link 28 1 0;policy ", 0, 2, ";life 1", "size", 4);
        told("link 28 1 0;send ", 1, 1000, " 0", "datagram", 0, 0);
        told("link 28 1 0;send 1 ", 0, 255, "", "datagram", 0, 1);
        told("link 28 1 0;send 1 ", 0, 255, "firm", "datagram", 0, 1);
    }

    /** A number of an order at both ends of its range and beyond. */
    private static void ordered(String scene, String ahead, int least, int most, String behind) {
        begin("order " + ahead + ".." + behind);
        for (int value : new int[] {least, most}) {
            fresh();
            read(scene);
            run(1, ahead + value + behind + ";");
        }
        for (String beyond : new String[] {String.valueOf(most + 1), "9999", least > 0 ? "" + (least - 1) : "9998"}) {
            badOrders(2, ahead.length(), ahead + beyond + behind + ";");
        }
        badOrders(1, ahead.length(), ahead + "10000" + behind + ";");
        badOrders(1, ahead.length(), ahead + "-1" + behind + ";");
        badOrders(1, ahead.length(), ahead + String.format("%05d", least) + behind + ";");
        due(1, "size", 15);
        run(1, ahead + String.format("%04d", least) + behind + ";");
    }

    private static void orders() {
        String full = SIX_LINKS + ";send 1 1".repeat(40);
        ordered(SIX_LINKS, "send ", 1, 1000, " 0");
        ordered(SIX_LINKS, "send 1 ", 0, 255, "firm");
        ordered(full, "again ", 0, 39, "");
        ordered(full, "probe ", 28, 1500, "");
        ordered(full, "forge ", 0, 39, " 0 1 0");
        ordered(full, "forge 0 ", 0, 992, " 1 0more");
        ordered(full, "forge 0 8 ", 1, 200, " 0");
        ordered(full, "forge 0 8 1 ", 0, 255, "");
        ordered(full, "size ", 0, 5, " 28");
        ordered(full, "size 0 ", 28, 1500, "");
        ordered(full, "every ", 0, 5, " 1");
        ordered(full, "every 0 ", 0, 99, "");
        ordered(full, "pass ", 1, 500, "");
        begin("OFFSET in orders is divisible by 8");
        for (int offset : new int[] {1, 4, 7, 9, 991}) {
            badOrders(2, 8, "forge 0 " + offset + " 1 0;");
        }
    }
}
