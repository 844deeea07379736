import java.util.ArrayDeque;
import java.util.ArrayList;
import java.util.Comparator;
import java.util.List;
import java.util.TreeMap;

/**
 * The document once more, in the most literal form: slow, with lists that are copied whole.
 * RunsTest compares it with FragmentPath. It has the same methods, so that both are called by name.
 */
public final class NaivePath {
    static final int NONE = -1;

    static final class ALink {
        int size, delay, every, counted, lost, cut, dropped, bytes;
    }

    static final class ADatagram {
        int length, seed, tries, sentAt, fate, endedAt = NONE, reason;
        boolean firm;

        int value(int i) {
            return (seed + 31 * i) % 256;
        }
    }

    /** datagram NONE: a probe. */
    static final class APacket {
        int link, at, datagram, offset, bytes;
        boolean more, firm;
    }

    /** told NONE: an answer; probe 0: about a piece. */
    static final class ANote {
        int at, told, datagram, probe;
    }

    static final class AHeap {
        int datagram, start, end = NONE, overlaps, came;
        TreeMap<Integer, Integer> known = new TreeMap<>();
    }

    static final class World {
        int time, life = 60, policy, path, low = 27, high = NONE, ended;
        int[] accounts = new int[12];
        List<ALink> links = new ArrayList<>();
        List<ADatagram> datagrams = new ArrayList<>();
        List<APacket> packets = new ArrayList<>();
        List<ANote> notes = new ArrayList<>();
        TreeMap<Integer, AHeap> heaps = new TreeMap<>();

        World copy() {
            World w = new World();
            w.time = time;
            w.life = life;
            w.policy = policy;
            w.path = path;
            w.low = low;
            w.high = high;
            w.ended = ended;
            w.accounts = accounts.clone();
            for (ALink l : links) {
                ALink c = new ALink();
                c.size = l.size;
                c.delay = l.delay;
                c.every = l.every;
                c.counted = l.counted;
                c.lost = l.lost;
                c.cut = l.cut;
                c.dropped = l.dropped;
                c.bytes = l.bytes;
                w.links.add(c);
            }
            for (ADatagram d : datagrams) {
                ADatagram c = new ADatagram();
                c.length = d.length;
                c.seed = d.seed;
                c.tries = d.tries;
                c.sentAt = d.sentAt;
                c.fate = d.fate;
                c.endedAt = d.endedAt;
                c.reason = d.reason;
                c.firm = d.firm;
                w.datagrams.add(c);
            }
            // Packets and notes never change once they are made.
            w.packets.addAll(packets);
            w.notes.addAll(notes);
            for (AHeap h : heaps.values()) {
                AHeap c = new AHeap();
                c.datagram = h.datagram;
                c.start = h.start;
                c.end = h.end;
                c.overlaps = h.overlaps;
                c.came = h.came;
                c.known.putAll(h.known);
                w.heaps.put(c.datagram, c);
            }
            return w;
        }

        int delays(int node) {
            int sum = 0;
            for (int k = 0; k < node; k++) {
                sum += links.get(k).delay;
            }
            return sum;
        }

        /** The lengths of the pieces into which so many bytes are cut by a size. */
        static List<Integer> lengths(int bytes, int size) {
            List<Integer> all = new ArrayList<>();
            int left = bytes;
            while (left > size - 20) {
                all.add((size - 20) / 8 * 8);
                left -= (size - 20) / 8 * 8;
            }
            all.add(left);
            return all;
        }

        APacket piece(int datagram, int offset, int length, boolean more, boolean firm) {
            APacket p = new APacket();
            p.datagram = datagram;
            p.offset = offset;
            p.bytes = length + 20;
            p.more = more;
            p.firm = firm;
            return p;
        }

        void put(int k, APacket p) {
            ALink l = links.get(k);
            if (p.bytes <= l.size) {
                go(k, p);
                return;
            }
            if (p.firm) {
                l.dropped++;
                accounts[4]++;
                ANote n = new ANote();
                n.at = time + delays(k);
                n.told = l.size;
                n.datagram = p.datagram;
                n.probe = p.datagram == NONE ? p.bytes : 0;
                if (n.at == time) {
                    hear(n);
                } else {
                    notes.add(n);
                }
                return;
            }
            l.cut++;
            accounts[3]++;
            int offset = p.offset;
            List<Integer> all = lengths(p.bytes - 20, l.size);
            for (int i = 0; i < all.size(); i++) {
                go(k, piece(p.datagram, offset, all.get(i), i + 1 < all.size() || p.more, false));
                offset += all.get(i);
            }
        }

        void go(int k, APacket p) {
            ALink l = links.get(k);
            l.counted++;
            accounts[0]++;
            l.bytes += p.bytes;
            if (l.every != 0 && l.counted % l.every == 0) {
                l.lost++;
                accounts[1]++;
                return;
            }
            if (packets.size() >= 300) {
                accounts[2]++;
                return;
            }
            APacket moved = new APacket();
            moved.datagram = p.datagram;
            moved.offset = p.offset;
            moved.bytes = p.bytes;
            moved.more = p.more;
            moved.firm = p.firm;
            moved.link = k;
            moved.at = time + l.delay;
            packets.add(moved);
        }

        void hear(ANote n) {
            if (n.told == NONE) {
                accounts[9]++;
                low = Math.max(low, n.probe);
                return;
            }
            accounts[8]++;
            boolean less = n.told < path;
            if (less) {
                path = n.told;
            }
            if (n.datagram != NONE) {
                ADatagram d = datagrams.get(n.datagram);
                if (less && d.tries < 3 && d.fate == 0) {
                    sendAll(n.datagram);
                }
            } else if (high == NONE || n.probe < high) {
                high = n.probe;
            }
        }

        void sendAll(int number) {
            ADatagram d = datagrams.get(number);
            d.tries++;
            if (!d.firm) {
                put(0, piece(number, 0, d.length, false, false));
                return;
            }
            List<Integer> all = lengths(d.length, path);
            int offset = 0;
            for (int i = 0; i < all.size(); i++) {
                put(0, piece(number, offset, all.get(i), i + 1 < all.size(), true));
                offset += all.get(i);
            }
        }

        int sendNew(int bytes, int seed, boolean firm) {
            ADatagram d = new ADatagram();
            d.length = bytes;
            d.seed = seed;
            d.firm = firm;
            d.sentAt = time;
            datagrams.add(d);
            sendAll(datagrams.size() - 1);
            return datagrams.size() - 1;
        }

        void sendProbe(int bytes) {
            APacket p = piece(NONE, NONE, bytes - 20, false, true);
            put(0, p);
        }

        void giveUp(int number, int reason) {
            ADatagram d = datagrams.get(number);
            d.fate = 3;
            d.endedAt = time;
            d.reason = reason;
            heaps.remove(number);
        }

        void come(int number, int offset, int length, boolean more, int fill) {
            accounts[5]++;
            ADatagram d = datagrams.get(number);
            if (d.fate != 0) {
                accounts[6]++;
                return;
            }
            if (!heaps.containsKey(number)) {
                if (heaps.size() == 4) {
                    AHeap least = null;
                    for (AHeap h : heaps.values()) {
                        if (least == null || h.start < least.start) {
                            least = h;
                        }
                    }
                    giveUp(least.datagram, 2);
                }
                AHeap h = new AHeap();
                h.datagram = number;
                h.start = time;
                heaps.put(number, h);
            }
            AHeap h = heaps.get(number);
            h.came++;
            int last = offset + length;
            boolean odd;
            if (!more) {
                odd = h.end != NONE && h.end != last || h.known.ceilingKey(last) != null;
            } else {
                odd = h.end != NONE && h.end < last;
            }
            if (odd) {
                giveUp(number, 3);
                return;
            }
            if (!more) {
                h.end = last;
            }
            boolean other = false;
            for (int i = offset; i < last; i++) {
                int value = fill == NONE ? d.value(i) : fill;
                Integer old = h.known.get(i);
                if (old != null) {
                    h.overlaps++;
                    accounts[7]++;
                    other |= old != value;
                }
                if (old == null || policy == 1) {
                    h.known.put(i, value);
                }
            }
            if (other && policy == 2) {
                giveUp(number, 4);
                return;
            }
            if (h.end != NONE && h.known.headMap(h.end).size() == h.end) {
                boolean own = h.end == d.length;
                for (int i = 0; i < h.end; i++) {
                    own &= h.known.get(i) == d.value(i);
                }
                d.fate = own ? 1 : 2;
                d.endedAt = time;
                accounts[11] += h.end;
                heaps.remove(number);
            }
        }

        void tick() {
            time++;
            for (int k = 0; k < links.size(); k++) {
                List<APacket> due = new ArrayList<>();
                for (APacket p : packets) {
                    if (p.link == k && p.at == time) {
                        due.add(p);
                    }
                }
                for (APacket p : due) {
                    packets.remove(p);
                    ended++;
                    arrive(k + 1, p);
                }
            }
            List<ANote> due = new ArrayList<>();
            for (ANote n : notes) {
                if (n.at == time) {
                    due.add(n);
                }
            }
            for (ANote n : due) {
                notes.remove(n);
                hear(n);
            }
            for (AHeap h : new ArrayList<>(heaps.values())) {
                if (time - h.start >= life) {
                    giveUp(h.datagram, 1);
                }
            }
        }

        void arrive(int node, APacket p) {
            if (node < links.size()) {
                put(node, p);
            } else if (p.datagram == NONE) {
                ANote n = new ANote();
                n.at = time + delays(links.size());
                n.told = NONE;
                n.datagram = NONE;
                n.probe = p.bytes;
                notes.add(n);
            } else {
                come(p.datagram, p.offset, p.bytes - 20, p.more, NONE);
            }
        }

        boolean quiet() {
            return packets.isEmpty() && notes.isEmpty() && heaps.isEmpty();
        }

        int fates(int fate) {
            return (int) datagrams.stream().filter(d -> d.fate == fate).count();
        }

        int handed() {
            return fates(1) + fates(2);
        }
    }

    private World now = new World();
    private World kept = null;
    private ArrayDeque<World> past = new ArrayDeque<>();
    private StringBuilder input = new StringBuilder();
    private String output = "";
    private int error = 0;
    private int errorAt = NONE;

    public NaivePath() {
        addLink(now, 576, 1, 0);
        now.path = 576;
    }

    private static void addLink(World w, int size, int delay, int every) {
        ALink l = new ALink();
        l.size = size;
        l.delay = delay;
        l.every = every;
        w.links.add(l);
    }

    private void remember() {
        past.addLast(now.copy());
        if (past.size() > 8) {
            past.removeFirst();
        }
    }

    private static void range(int value, int least, int most) {
        if (value < least || value > most) {
            throw new IllegalArgumentException();
        }
    }

    private ALink needLink(int k) {
        if (k < 0 || k >= now.links.size()) {
            throw new IndexOutOfBoundsException();
        }
        return now.links.get(k);
    }

    private ADatagram needDatagram(int d) {
        if (d < 0 || d >= now.datagrams.size()) {
            throw new IndexOutOfBoundsException();
        }
        return now.datagrams.get(d);
    }

    public int append(int a, int b, int c, int d, int e) {
        if (input.length() + 20 > 500) {
            throw new IllegalStateException();
        }
        for (int n : new int[] {a, b, c, d, e}) {
            input.append((char) (n >>> 24)).append((char) (n >>> 16 & 255));
            input.append((char) (n >>> 8 & 255)).append((char) (n & 255));
        }
        return input.length();
    }

    public int truncate(int length) {
        range(length, 0, input.length());
        input.setLength(length);
        return length;
    }

    // ---- texts: all tokens first, then the statements over them ----

    private record Token(char kind, int at, String text) { }

    private static List<Token> tokens(String text) {
        List<Token> all = new ArrayList<>();
        int i = 0;
        while (i < text.length()) {
            char c = text.charAt(i);
            int from = i;
            if (c == ' ') {
                i++;
                continue;
            }
            if (c >= 'a' && c <= 'z') {
                while (i < text.length() && text.charAt(i) >= 'a' && text.charAt(i) <= 'z') {
                    i++;
                }
                all.add(new Token('w', from, text.substring(from, i)));
            } else if (c >= '0' && c <= '9') {
                while (i < text.length() && text.charAt(i) >= '0' && text.charAt(i) <= '9') {
                    i++;
                }
                all.add(new Token('n', from, text.substring(from, i)));
            } else {
                i++;
                all.add(new Token(c == ';' ? ';' : '?', from, text.substring(from, i)));
            }
        }
        all.add(new Token('e', text.length(), ""));
        return all;
    }

    private static final class Fault extends Exception {
        private static final long serialVersionUID = 1L;
        final int kind, at;

        Fault(int kind, int at) {
            super(null, null, false, false);
            this.kind = kind;
            this.at = at;
        }
    }

    private static int[][] ranges(String word) {
        switch (word) {
            case "link": return new int[][] {{28, 1500}, {1, 50}, {0, 99}};
            case "life": return new int[][] {{1, 200}};
            case "policy": return new int[][] {{0, 2}};
            case "send": return new int[][] {{1, 1000}, {0, 255}};
            case "again": return new int[][] {{0, 39}};
            case "probe": return new int[][] {{28, 1500}};
            case "forge": return new int[][] {{0, 39}, {0, 992}, {1, 200}, {0, 255}};
            case "size": return new int[][] {{0, 5}, {28, 1500}};
            case "every": return new int[][] {{0, 5}, {0, 99}};
            default: return new int[][] {{1, 500}};
        }
    }

    private record Statement(String word, int[] numbers, boolean option) { }

    private static List<Statement> parse(String text, boolean orders) throws Fault {
        List<String> words = orders ? List.of("send", "again", "probe", "forge", "size", "every", "pass")
                : List.of("link", "life", "policy", "send");
        List<Token> all = tokens(text);
        List<Statement> told = new ArrayList<>();
        int i = 0;
        if (orders && all.get(0).kind == 'e') {
            return told;
        }
        while (true) {
            Token t = all.get(i++);
            if (t.kind != 'w' || !words.contains(t.text) || !orders && told.isEmpty() && !t.text.equals("link")) {
                throw new Fault(1, t.at);
            }
            long like = told.stream().filter(s -> s.word.equals(t.text)).count();
            if ((t.text.equals("life") || t.text.equals("policy")) && like > 0) {
                throw new Fault(3, t.at);
            }
            if (orders ? told.size() == 30
                    : t.text.equals("link") && like == 6 || t.text.equals("send") && like == 40) {
                throw new Fault(4, t.at);
            }
            int[][] ranges = ranges(t.text);
            int[] numbers = new int[ranges.length];
            for (int k = 0; k < numbers.length; k++) {
                Token n = all.get(i++);
                if (n.kind != 'n' || n.text.length() > 4) {
                    throw new Fault(1, n.at);
                }
                numbers[k] = Integer.parseInt(n.text);
                if (numbers[k] < ranges[k][0] || numbers[k] > ranges[k][1]
                        || t.text.equals("forge") && k == 1 && numbers[k] % 8 != 0) {
                    throw new Fault(2, n.at);
                }
            }
            String may = t.text.equals("send") ? "firm" : t.text.equals("forge") ? "more" : "";
            boolean option = all.get(i).kind == 'w' && all.get(i).text.equals(may);
            if (option) {
                i++;
            }
            told.add(new Statement(t.text, numbers, option));
            Token end = all.get(i++);
            if (end.kind == 'e' && !orders) {
                return told;
            }
            if (end.kind != ';') {
                throw new Fault(1, end.at);
            }
            if (orders && all.get(i).kind == 'e') {
                return told;
            }
        }
    }

    private List<Statement> read(boolean orders) {
        String text = input.toString();
        input.setLength(0);
        try {
            List<Statement> told = parse(text, orders);
            error = 0;
            errorAt = NONE;
            return told;
        } catch (Fault f) {
            error = f.kind;
            errorAt = f.at;
            throw new IllegalArgumentException();
        }
    }

    public int readText() {
        List<Statement> told = read(false);
        now = new World();
        past.clear();
        for (Statement s : told) {
            if (s.word.equals("link")) {
                addLink(now, s.numbers[0], s.numbers[1], s.numbers[2]);
            } else if (s.word.equals("life")) {
                now.life = s.numbers[0];
            } else if (s.word.equals("policy")) {
                now.policy = s.numbers[0];
            }
        }
        now.path = now.links.get(0).size;
        for (Statement s : told) {
            if (s.word.equals("send")) {
                now.sendNew(s.numbers[0], s.numbers[1], s.option);
            }
        }
        return now.datagrams.size();
    }

    public int runOrders() {
        List<Statement> told = read(true);
        ArrayDeque<World> before = new ArrayDeque<>(past);
        World first = now.copy();
        int done = 0;
        for (Statement s : told) {
            try {
                if (order(s) < 0) {
                    break;
                }
            } catch (IndexOutOfBoundsException | IllegalArgumentException e) {
                break;
            }
            done++;
        }
        past = before;
        past.addLast(first);
        if (past.size() > 8) {
            past.removeFirst();
        }
        return done;
    }

    private int order(Statement s) {
        int[] n = s.numbers;
        switch (s.word) {
            case "send": return send(n[0], n[1], s.option);
            case "again": return again(n[0]);
            case "probe": return probe(n[0]);
            case "forge": return forge(n[0], n[1], n[2], n[3], s.option);
            case "size": return setSize(n[0], n[1]);
            case "every": return setEvery(n[0], n[1]);
            default: return pass(n[0]);
        }
    }

    public int errorCode() {
        return error;
    }

    public int errorPosition() {
        return errorAt;
    }

    public int size(int what) {
        range(what, 0, 15);
        int answers = (int) now.notes.stream().filter(n -> n.told == NONE).count();
        return new int[] {now.links.size(), now.datagrams.size(), now.time, now.life, now.policy, now.path, now.low,
            now.high, now.packets.size(), now.notes.size() - answers, answers, now.heaps.size(), now.fates(0),
            now.handed(), now.fates(3), past.size()}[what];
    }

    public int link(int link, int what) {
        ALink l = needLink(link);
        range(what, 0, 8);
        int on = (int) now.packets.stream().filter(p -> p.link == link).count();
        return new int[] {l.size, l.delay, l.every, l.counted, on, l.lost, l.cut, l.dropped, l.bytes}[what];
    }

    public int datagram(int datagram, int what) {
        ADatagram d = needDatagram(datagram);
        range(what, 0, 8);
        int on = (int) now.packets.stream().filter(p -> p.datagram == datagram).count();
        return new int[] {d.length, d.seed, d.firm ? 1 : 0, d.tries, d.sentAt, d.fate, d.endedAt, d.reason, on}[what];
    }

    public int ownByte(int datagram, int index) {
        ADatagram d = needDatagram(datagram);
        return index < 0 || index >= d.length ? NONE : d.value(index);
    }

    public int packet(int index, int what) {
        List<APacket> sorted = new ArrayList<>(now.packets);
        sorted.sort(Comparator.<APacket>comparingInt(p -> p.at).thenComparingInt(p -> p.link));
        if (index < 0 || index >= sorted.size()) {
            throw new IndexOutOfBoundsException();
        }
        range(what, 0, 6);
        APacket p = sorted.get(index);
        return new int[] {p.link, p.at, p.datagram, p.offset, p.bytes, p.more ? 1 : 0, p.firm ? 1 : 0}[what];
    }

    private static List<int[]> holes(AHeap h) {
        List<int[]> all = new ArrayList<>();
        int top = h.known.isEmpty() ? 0 : h.known.lastKey() + 1;
        int limit = h.end == NONE ? top : h.end;
        for (int i = 0; i < limit; i++) {
            if (h.known.containsKey(i)) {
                continue;
            }
            int j = i;
            while (j < limit && !h.known.containsKey(j)) {
                j++;
            }
            all.add(new int[] {i, j});
            i = j;
        }
        if (h.end == NONE) {
            all.add(new int[] {top, NONE});
        }
        return all;
    }

    public int heap(int datagram, int what) {
        needDatagram(datagram);
        range(what, 0, 6);
        AHeap h = now.heaps.get(datagram);
        if (h == null) {
            return NONE;
        }
        int top = h.known.isEmpty() ? 0 : h.known.lastKey() + 1;
        return new int[] {h.start, h.end, h.known.size(), holes(h).size(), h.overlaps, h.came, top}[what];
    }

    public int hole(int datagram, int index, int what) {
        needDatagram(datagram);
        range(what, 0, 1);
        AHeap h = now.heaps.get(datagram);
        if (h == null || index < 0 || index >= holes(h).size()) {
            return NONE;
        }
        return holes(h).get(index)[what];
    }

    public int heapByte(int datagram, int index) {
        needDatagram(datagram);
        AHeap h = now.heaps.get(datagram);
        return h == null ? NONE : h.known.getOrDefault(index, NONE);
    }

    public int account(int what) {
        range(what, 0, 11);
        return now.accounts[what];
    }

    public int gap() {
        int[] a = now.accounts;
        return a[0] - a[1] - a[2] - now.packets.size() - now.ended;
    }

    public int narrowest() {
        return now.links.stream().mapToInt(l -> l.size).min().getAsInt();
    }

    public int wholeDelay() {
        return now.delays(now.links.size());
    }

    /** The lengths of the pieces of a loose datagram on a link. */
    private List<Integer> onLink(int bytes, int link) {
        List<Integer> all = List.of(bytes);
        for (int k = 0; k <= link; k++) {
            List<Integer> next = new ArrayList<>();
            for (int one : all) {
                next.addAll(World.lengths(one, now.links.get(k).size));
            }
            all = next;
        }
        return all;
    }

    public int pieces(int bytes, int link) {
        needLink(link);
        range(bytes, 1, 1000);
        return onLink(bytes, link).size();
    }

    public int burden(int bytes) {
        range(bytes, 1, 1000);
        int sum = 0;
        for (int k = 0; k < now.links.size(); k++) {
            for (int one : onLink(bytes, k)) {
                sum += one + 20;
            }
        }
        return sum;
    }

    public int bestLong(int bytes) {
        range(bytes, 1, 3000);
        int best = 0;
        int least = Integer.MAX_VALUE;
        int[] weights = new int[Math.min(1000, bytes) + 1];
        for (int i = 1; i < weights.length; i++) {
            weights[i] = burden(i);
        }
        for (int i = 1; i < weights.length; i++) {
            int whole = bytes / i * weights[i] + (bytes % i > 0 ? weights[bytes % i] : 0);
            if (whole <= least) {
                least = whole;
                best = i;
            }
        }
        return best;
    }

    public int nextProbe() {
        if (now.high == NONE) {
            return now.low < 1500 ? 1500 : NONE;
        }
        return now.high > now.low + 1 ? (now.low + now.high) / 2 : NONE;
    }

    public boolean isFound() {
        return now.high != NONE && now.high == now.low + 1 || now.low == 1500;
    }

    public int missing(int datagram) {
        needDatagram(datagram);
        AHeap h = now.heaps.get(datagram);
        return h == null || h.end == NONE ? NONE : h.end - h.known.headMap(h.end).size();
    }

    public boolean fills(int datagram, int offset, int bytes) {
        needDatagram(datagram);
        range(offset, 0, 1000);
        range(bytes, 1, 1000);
        AHeap h = now.heaps.get(datagram);
        if (h == null || h.end == NONE || missing(datagram) == 0) {
            return false;
        }
        for (int i = 0; i < h.end; i++) {
            if (!h.known.containsKey(i) && (i < offset || i >= offset + bytes)) {
                return false;
            }
        }
        return true;
    }

    public int handedIn(int datagram) {
        needDatagram(datagram);
        World w = now.copy();
        for (int t = 0; t <= 600; t++) {
            int fate = w.datagrams.get(datagram).fate;
            if (fate == 1 || fate == 2) {
                return t;
            }
            w.tick();
        }
        return NONE;
    }

    public int endIn(int datagram) {
        needDatagram(datagram);
        World w = now.copy();
        for (int t = 0; t <= 600; t++) {
            if (w.datagrams.get(datagram).fate != 0) {
                return t;
            }
            w.tick();
        }
        return NONE;
    }

    public int quietIn() {
        World w = now.copy();
        for (int t = 0; t <= 600; t++) {
            if (w.quiet()) {
                return t;
            }
            w.tick();
        }
        return NONE;
    }

    public int pathIn(int ticks) {
        range(ticks, 0, 600);
        World w = now.copy();
        for (int t = 0; t < ticks; t++) {
            w.tick();
        }
        return w.path;
    }

    public int handedBy(int life, int policy) {
        range(life, 1, 200);
        range(policy, 0, 2);
        World w = now.copy();
        w.life = life;
        w.policy = policy;
        for (int t = 0; t < 600; t++) {
            w.tick();
        }
        return w.handed();
    }

    public float trueShare() {
        return now.handed() == 0 ? 0.0f : (float) now.fates(1) / (float) now.handed();
    }

    public double meanTries() {
        int sum = now.datagrams.stream().mapToInt(d -> d.tries).sum();
        return now.datagrams.isEmpty() ? 0.0 : (double) sum / (double) now.datagrams.size();
    }

    public int send(int bytes, int seed, boolean isFirm) {
        range(bytes, 1, 1000);
        range(seed, 0, 255);
        if (now.datagrams.size() == 40) {
            return -1;
        }
        remember();
        return now.sendNew(bytes, seed, isFirm);
    }

    public int again(int datagram) {
        if (needDatagram(datagram).fate != 0) {
            return -2;
        }
        remember();
        now.sendAll(datagram);
        return now.datagrams.get(datagram).tries;
    }

    public int probe(int bytes) {
        range(bytes, 28, 1500);
        remember();
        now.sendProbe(bytes);
        return now.packets.size();
    }

    public int forge(int datagram, int offset, int bytes, int fill, boolean more) {
        needDatagram(datagram);
        range(offset, 0, 992);
        range(offset % 8, 0, 0);
        range(bytes, 1, 200);
        range(fill, 0, 255);
        remember();
        now.accounts[10]++;
        now.come(datagram, offset, bytes, more, fill);
        AHeap h = now.heaps.get(datagram);
        return h == null ? 0 : h.known.size();
    }

    public int setSize(int link, int size) {
        needLink(link);
        range(size, 28, 1500);
        remember();
        int before = now.links.get(link).size;
        now.links.get(link).size = size;
        return before;
    }

    public int setEvery(int link, int every) {
        needLink(link);
        range(every, 0, 99);
        remember();
        int before = now.links.get(link).every;
        now.links.get(link).every = every;
        return before;
    }

    public int setLife(int life) {
        range(life, 1, 200);
        remember();
        int before = now.life;
        now.life = life;
        return before;
    }

    public int setPolicy(int policy) {
        range(policy, 0, 2);
        remember();
        int before = now.policy;
        now.policy = policy;
        return before;
    }

    public int forget() {
        remember();
        now.path = now.links.get(0).size;
        now.low = 27;
        now.high = NONE;
        return now.path;
    }

    public int pass(int ticks) {
        range(ticks, 1, 500);
        if (now.time + ticks > 9999) {
            return -3;
        }
        remember();
        int before = now.handed();
        for (int t = 0; t < ticks; t++) {
            now.tick();
        }
        return now.handed() - before;
    }

    public int writeHeap(int datagram) {
        needDatagram(datagram);
        AHeap h = now.heaps.get(datagram);
        if (h == null) {
            output = "x";
            return 1;
        }
        List<String> rows = new ArrayList<>();
        int from = NONE;
        for (int i = 0; i <= 1200; i++) {
            boolean known = h.known.containsKey(i);
            if (known && from == NONE) {
                from = i;
            } else if (!known && from != NONE) {
                rows.add(from + "-" + (i - 1));
                from = NONE;
            }
        }
        output = String.join(",", rows) + "/" + (h.end == NONE ? "?" : "" + h.end);
        return output.length();
    }

    public int writePath() {
        List<String> all = new ArrayList<>();
        for (int k = 0; k < now.links.size(); k++) {
            all.add(link(k, 0) + "*" + link(k, 4));
        }
        output = String.join(">", all);
        return output.length();
    }

    public int outputByte(int index) {
        return index < 0 || index >= output.length() ? NONE : output.charAt(index);
    }

    public int undo() {
        if (past.isEmpty()) {
            return NONE;
        }
        now = past.removeLast();
        return past.size();
    }

    public int save() {
        kept = now.copy();
        return now.time;
    }

    public int restore() {
        if (kept == null) {
            throw new IllegalStateException();
        }
        now = kept.copy();
        past.clear();
        return now.time;
    }
}
