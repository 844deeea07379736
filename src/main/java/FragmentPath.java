import java.util.Arrays;

/** Datagrams that are cut into pieces on a path of links, and what comes of them; see README.md. */
public final class FragmentPath {
    public static final int NONE = -1;

    private static final int MOST_LINKS = 6;
    private static final int MOST_DATAGRAMS = 40;
    private static final int MOST_PACKETS = 300;
    private static final int MOST_HEAPS = 4;
    private static final int MOST_BACKS = 8;
    private static final int MOST_LONG = 1000;
    private static final int MOST_CARRIED = 3000;
    private static final int MOST_TIME = 9999;
    private static final int MOST_AHEAD = 600;
    private static final int LEAST_SIZE = 28;
    private static final int MOST_SIZE = 1500;
    private static final int MOST_EVERY = 99;
    private static final int MOST_LIFE = 200;
    private static final int MOST_POLICY = 2;
    private static final int MOST_BYTE = 255;
    private static final int MOST_FORGED_OFFSET = 992;
    private static final int MOST_FORGED_LONG = 200;
    private static final int MOST_TICKS = 500;

    /** The bytes of a packet that are not of the datagram. */
    private static final int HEAD = 20;

    private static final int EVENT_HANDED = 0;
    private static final int EVENT_ENDED = 1;
    private static final int EVENT_QUIET = 2;

    private static final int REFUSED_FULL = -1;
    private static final int REFUSED_ENDED = -2;
    private static final int REFUSED_LATE = -3;

    private final Reader reader = new Reader();
    private final Text text = new Text();
    private final int[] burdens = new int[MOST_LONG + 1];
    private final State now = new State();
    private final State[] past = new State[MOST_BACKS];
    private int oldest = 0;
    private int backs = 0;
    private State trial = null;
    private State kept = null;

    public FragmentPath() {
        now.addLink(576, 1, 0);
        now.unlearn();
    }

    // ---- the texts that come in ----

    public int append(int a, int b, int c, int d, int e) throws IllegalStateException {
        if (!reader.hasRoomForFive()) {
            throw new IllegalStateException("the input buffer would exceed its length");
        }
        reader.takeNumber(a);
        reader.takeNumber(b);
        reader.takeNumber(c);
        reader.takeNumber(d);
        reader.takeNumber(e);
        return reader.length;
    }

    public int truncate(int length) throws IllegalArgumentException {
        needRange(length, 0, reader.length);
        reader.length = length;
        return length;
    }

    public int readText() throws IllegalArgumentException {
        if (!reader.isWellRead(false)) {
            throw new IllegalArgumentException("the text has an error");
        }
        now.clear();
        for (int i = 0; i < reader.count; i++) {
            tellStatement(i);
        }
        now.unlearn();
        for (int i = 0; i < reader.count; i++) {
            if (reader.kindOf(i) == Reader.SEND) {
                now.sendNew(reader.numberOf(i, 0), reader.numberOf(i, 1), reader.hasOption(i));
            }
        }
        backs = 0;
        return now.datagramCount;
    }

    private void tellStatement(int i) {
        switch (reader.kindOf(i)) {
            case Reader.LINK:
                now.addLink(reader.numberOf(i, 0), reader.numberOf(i, 1), reader.numberOf(i, 2));
                break;
            case Reader.LIFE:
                now.life = reader.numberOf(i, 0);
                break;
            case Reader.POLICY:
                now.policy = reader.numberOf(i, 0);
                break;
            default:
                break;
        }
    }

    public int runOrders() throws IllegalArgumentException {
        if (!reader.isWellRead(true)) {
            throw new IllegalArgumentException("the text has an error");
        }
        remember();
        int done = 0;
        while (done < reader.count && isOrderDone(done)) {
            done++;
        }
        return done;
    }

    /** Does an order, if its method would neither throw nor refuse it. */
    private boolean isOrderDone(int i) {
        int first = reader.numberOf(i, 0);
        int second = reader.numberOf(i, 1);
        switch (reader.kindOf(i)) {
            case Reader.SEND:
                return now.sendNew(first, second, reader.hasOption(i)) != NONE;
            case Reader.AGAIN:
                return isSentAgain(first);
            case Reader.PROBE:
                now.sendProbe(first);
                return true;
            case Reader.FORGE:
                return now.isForged(first, second, reader.numberOf(i, 2), reader.numberOf(i, 3),
                        !reader.hasOption(i));
            case Reader.SIZE:
                return isSized(first, second);
            case Reader.EVERY:
                return isEveryTold(first, second);
            case Reader.PASS:
                if (now.time + first > MOST_TIME) {
                    return false;
                }
                for (int ticks = 0; ticks < first; ticks++) {
                    now.tick();
                }
                return true;
            default:
                return false;
        }
    }

    private boolean isSentAgain(int datagram) {
        Datagram told = now.datagramAt(datagram);
        if (told == null || told.fate != Datagram.OPEN) {
            return false;
        }
        now.transmit(datagram, 0);
        return true;
    }

    private boolean isSized(int link, int size) {
        Link told = now.linkAt(link);
        if (told == null) {
            return false;
        }
        told.size = size;
        return true;
    }

    private boolean isEveryTold(int link, int every) {
        Link told = now.linkAt(link);
        if (told == null) {
            return false;
        }
        told.every = every;
        return true;
    }

    public int errorCode() {
        return reader.error;
    }

    public int errorPosition() {
        return reader.errorAt;
    }

    // ---- what is there now ----

    public int size(int what) throws IllegalArgumentException {
        needRange(what, 0, 15);
        switch (what) {
            case 0:
                return now.linkCount;
            case 1:
                return now.datagramCount;
            case 2:
                return now.time;
            case 3:
                return now.life;
            case 4:
                return now.policy;
            case 5:
                return now.path;
            case 6:
                return now.low;
            case 7:
                return now.high;
            case 8:
                return now.packets.count;
            case 9:
                return now.notes.count - now.notes.answers();
            case 10:
                return now.notes.answers();
            case 11:
                return now.heapCount();
            case 12:
                return now.fateCount(Datagram.OPEN);
            case 13:
                return now.handedCount();
            case 14:
                return now.fateCount(Datagram.GIVEN_UP);
            default:
                return backs;
        }
    }

    public int link(int link, int what) throws IndexOutOfBoundsException, IllegalArgumentException {
        Link told = needLink(link);
        needRange(what, 0, 8);
        switch (what) {
            case 0:
                return told.size;
            case 1:
                return told.delay;
            case 2:
                return told.every;
            case 3:
                return told.counted;
            case 4:
                return now.packets.waitingOn(link);
            case 5:
                return told.lost;
            case 6:
                return told.cut;
            case 7:
                return told.dropped;
            default:
                return told.bytes;
        }
    }

    public int datagram(int datagram, int what) throws IndexOutOfBoundsException, IllegalArgumentException {
        Datagram told = needDatagram(datagram);
        needRange(what, 0, 8);
        switch (what) {
            case 0:
                return told.length;
            case 1:
                return told.seed;
            case 2:
                return told.isFirm ? 1 : 0;
            case 3:
                return told.tries;
            case 4:
                return told.sentAt;
            case 5:
                return told.fate;
            case 6:
                return told.endedAt;
            case 7:
                return told.reason;
            default:
                return now.packets.countOf(datagram);
        }
    }

    public int ownByte(int datagram, int index) throws IndexOutOfBoundsException {
        Datagram told = needDatagram(datagram);
        return index >= 0 && index < told.length ? told.byteAt(index) : NONE;
    }

    public int packet(int index, int what) throws IndexOutOfBoundsException, IllegalArgumentException {
        int slot = now.packets.slotInOrder(index);
        if (slot == NONE) {
            throw new IndexOutOfBoundsException("there is no such packet");
        }
        needRange(what, 0, 6);
        switch (what) {
            case 0:
                return valueIn(now.packets.on, slot);
            case 1:
                return valueIn(now.packets.at, slot);
            case 2:
                return valueIn(now.packets.whose, slot);
            case 3:
                return valueIn(now.packets.offset, slot);
            case 4:
                return valueIn(now.packets.bytes, slot);
            case 5:
                return now.hasMore(slot) ? 1 : 0;
            default:
                return now.isFirm(valueIn(now.packets.whose, slot)) ? 1 : 0;
        }
    }

    public int heap(int datagram, int what) throws IndexOutOfBoundsException, IllegalArgumentException {
        needDatagram(datagram);
        needRange(what, 0, 6);
        Heap heap = now.heapOf(datagram);
        if (heap == null) {
            return NONE;
        }
        switch (what) {
            case 0:
                return heap.start;
            case 1:
                return heap.end;
            case 2:
                return heap.known;
            case 3:
                return heap.holeCount();
            case 4:
                return heap.overlaps;
            case 5:
                return heap.arrived;
            default:
                return heap.top;
        }
    }

    public int hole(int datagram, int index, int what) throws IndexOutOfBoundsException, IllegalArgumentException {
        needDatagram(datagram);
        needRange(what, 0, 1);
        Heap heap = now.heapOf(datagram);
        if (heap == null) {
            return NONE;
        }
        int start = heap.holeStart(index);
        return what == 0 || start == NONE ? start : heap.holeEnd(start);
    }

    public int heapByte(int datagram, int index) throws IndexOutOfBoundsException {
        needDatagram(datagram);
        Heap heap = now.heapOf(datagram);
        return heap == null ? NONE : heap.valueAt(index);
    }

    public int account(int what) throws IllegalArgumentException {
        needRange(what, 0, 11);
        return now.accounts.numberOf(what);
    }

    public int gap() {
        Accounts told = now.accounts;
        return told.counted - (told.lost + told.crowded + now.packets.count + told.ended);
    }

    // ---- what the path is like ----

    public int narrowest() {
        int least = MOST_SIZE;
        for (int k = 0; k < now.linkCount; k++) {
            Link told = now.linkAt(k);
            if (told != null && told.size < least) {
                least = told.size;
            }
        }
        return least;
    }

    public int wholeDelay() {
        return now.delaysAhead(now.linkCount);
    }

    public int pieces(int bytes, int link) throws IndexOutOfBoundsException, IllegalArgumentException {
        needLink(link);
        needRange(bytes, 1, MOST_LONG);
        Arrays.fill(burdens, 1);
        for (int k = link; k >= 0; k--) {
            addLinkBurden(k, bytes, 0);
        }
        return valueIn(burdens, bytes);
    }

    public int burden(int bytes) throws IllegalArgumentException {
        needRange(bytes, 1, MOST_LONG);
        weighUpTo(bytes);
        return valueIn(burdens, bytes);
    }

    public int bestLong(int bytes) throws IllegalArgumentException {
        needRange(bytes, 1, MOST_CARRIED);
        int most = Math.min(bytes, MOST_LONG);
        weighUpTo(most);
        int best = 1;
        for (int each = 1; each <= most; each++) {
            if (wholeBurden(bytes, each) <= wholeBurden(bytes, best)) {
                best = each;
            }
        }
        return best;
    }

    /** The burden of so many bytes in datagrams of one LONG; burdens must be weighed. */
    private int wholeBurden(int bytes, int each) {
        if (each < 1) {
            return NONE;
        }
        int rest = bytes % each;
        return bytes / each * valueIn(burdens, each) + (rest == 0 ? 0 : valueIn(burdens, rest));
    }

    private void weighUpTo(int bytes) {
        Arrays.fill(burdens, 0);
        for (int k = now.linkCount - 1; k >= 0; k--) {
            addLinkBurden(k, bytes, 1);
        }
    }

    /**
     * Turns burdens of pieces behind a link into those of pieces ahead of it. Each is made of
     * smaller ones, so the greatest is done first. With weight 0 the bytes on the link itself
     * do not count.
     */
    private void addLinkBurden(int link, int bytes, int weight) {
        Link told = now.linkAt(link);
        if (told == null) {
            return;
        }
        int full = fullOf(told.size);
        for (int p = bytes; p >= 1; p--) {
            int cuts = cutsOf(p, told.size);
            int behind = cuts * valueIn(burdens, full) + valueIn(burdens, p - cuts * full);
            setIn(burdens, p, behind + weight * (p + (cuts + 1) * HEAD));
        }
    }

    public int nextProbe() {
        if (now.high == NONE && now.low < MOST_SIZE) {
            return MOST_SIZE;
        }
        return now.high > now.low + 1 ? (now.low + now.high) / 2 : NONE;
    }

    public boolean isFound() {
        return now.high == now.low + 1 || now.low == MOST_SIZE;
    }

    public int missing(int datagram) throws IndexOutOfBoundsException {
        needDatagram(datagram);
        Heap heap = now.heapOf(datagram);
        return heap == null ? NONE : heap.missingFrom(0, 0);
    }

    public boolean fills(int datagram, int offset, int bytes)
            throws IndexOutOfBoundsException, IllegalArgumentException {
        needDatagram(datagram);
        needRange(offset, 0, MOST_LONG);
        needRange(bytes, 1, MOST_LONG);
        Heap heap = now.heapOf(datagram);
        return heap != null && heap.missingFrom(0, 0) > 0 && heap.missingFrom(offset, offset + bytes) == 0;
    }

    // ---- what will come ----

    public int handedIn(int datagram) throws IndexOutOfBoundsException {
        needDatagram(datagram);
        return foretell(EVENT_HANDED, datagram);
    }

    public int endIn(int datagram) throws IndexOutOfBoundsException {
        needDatagram(datagram);
        return foretell(EVENT_ENDED, datagram);
    }

    public int quietIn() {
        return foretell(EVENT_QUIET, NONE);
    }

    public int pathIn(int ticks) throws IllegalArgumentException {
        needRange(ticks, 0, MOST_AHEAD);
        trial = copyInto(trial);
        runTrial(trial, ticks);
        return trial.path;
    }

    public int handedBy(int life, int policy) throws IllegalArgumentException {
        needRange(life, 1, MOST_LIFE);
        needRange(policy, 0, MOST_POLICY);
        trial = copyInto(trial);
        trial.life = life;
        trial.policy = policy;
        runTrial(trial, MOST_AHEAD);
        return trial.handedCount();
    }

    /** Where all is quiet nothing can come any more. */
    private static void runTrial(State state, int ticks) {
        for (int i = 0; i < ticks && !state.isQuiet(); i++) {
            state.tick();
        }
    }

    private int foretell(int event, int datagram) {
        trial = copyInto(trial);
        for (int ticks = 0; ticks <= MOST_AHEAD; ticks++) {
            if (hasCome(trial, event, datagram)) {
                return ticks;
            }
            if (trial.isQuiet()) {
                return NONE;
            }
            trial.tick();
        }
        return NONE;
    }

    private static boolean hasCome(State state, int event, int datagram) {
        if (event == EVENT_QUIET) {
            return state.isQuiet();
        }
        Datagram told = state.datagramAt(datagram);
        if (told == null) {
            return false;
        }
        return event == EVENT_HANDED ? told.isHanded() : told.fate != Datagram.OPEN;
    }

    public float trueShare() {
        int handed = now.handedCount();
        return handed == 0 ? 0.0f : (float) now.fateCount(Datagram.TRUE) / (float) handed;
    }

    public double meanTries() {
        return now.datagramCount == 0 ? 0.0 : (double) now.triesTogether() / (double) now.datagramCount;
    }

    // ---- changes ----

    public int send(int bytes, int seed, boolean isFirm) throws IllegalArgumentException {
        needRange(bytes, 1, MOST_LONG);
        needRange(seed, 0, MOST_BYTE);
        if (now.datagramCount >= MOST_DATAGRAMS) {
            return REFUSED_FULL;
        }
        remember();
        return now.sendNew(bytes, seed, isFirm);
    }

    public int again(int datagram) throws IndexOutOfBoundsException {
        Datagram told = needDatagram(datagram);
        if (told.fate != Datagram.OPEN) {
            return REFUSED_ENDED;
        }
        remember();
        now.transmit(datagram, 0);
        return told.tries;
    }

    public int probe(int bytes) throws IllegalArgumentException {
        needRange(bytes, LEAST_SIZE, MOST_SIZE);
        remember();
        now.sendProbe(bytes);
        return now.packets.count;
    }

    public int forge(int datagram, int offset, int bytes, int fill, boolean more)
            throws IndexOutOfBoundsException, IllegalArgumentException {
        needDatagram(datagram);
        needRange(offset, 0, MOST_FORGED_OFFSET);
        if (offset % 8 != 0) {
            throw new IllegalArgumentException("the offset is not divisible by 8");
        }
        needRange(bytes, 1, MOST_FORGED_LONG);
        needRange(fill, 0, MOST_BYTE);
        remember();
        now.isForged(datagram, offset, bytes, fill, !more);
        Heap heap = now.heapOf(datagram);
        return heap == null ? 0 : heap.known;
    }

    public int setSize(int link, int size) throws IndexOutOfBoundsException, IllegalArgumentException {
        Link told = needLink(link);
        needRange(size, LEAST_SIZE, MOST_SIZE);
        remember();
        int before = told.size;
        told.size = size;
        return before;
    }

    public int setEvery(int link, int every) throws IndexOutOfBoundsException, IllegalArgumentException {
        Link told = needLink(link);
        needRange(every, 0, MOST_EVERY);
        remember();
        int before = told.every;
        told.every = every;
        return before;
    }

    public int setLife(int life) throws IllegalArgumentException {
        needRange(life, 1, MOST_LIFE);
        remember();
        int before = now.life;
        now.life = life;
        return before;
    }

    public int setPolicy(int policy) throws IllegalArgumentException {
        needRange(policy, 0, MOST_POLICY);
        remember();
        int before = now.policy;
        now.policy = policy;
        return before;
    }

    public int forget() {
        remember();
        now.unlearn();
        return now.path;
    }

    public int pass(int ticks) throws IllegalArgumentException {
        needRange(ticks, 1, MOST_TICKS);
        if (now.time + ticks > MOST_TIME) {
            return REFUSED_LATE;
        }
        remember();
        int before = now.handedCount();
        for (int i = 0; i < ticks; i++) {
            now.tick();
        }
        return now.handedCount() - before;
    }

    // ---- texts that go out ----

    public int writeHeap(int datagram) throws IndexOutOfBoundsException {
        needDatagram(datagram);
        text.length = 0;
        Heap heap = now.heapOf(datagram);
        if (heap == null) {
            text.putSign('x');
            return text.length;
        }
        writeRows(heap);
        text.putSign('/');
        if (heap.end == NONE) {
            text.putSign('?');
        } else {
            text.putNumber(heap.end);
        }
        return text.length;
    }

    private void writeRows(Heap heap) {
        for (int i = 0; i < heap.top; i++) {
            if (!heap.isKnown(i)) {
                continue;
            }
            if (!heap.isKnown(i - 1)) {
                if (text.length > 0) {
                    text.putSign(',');
                }
                text.putNumber(i);
                text.putSign('-');
            }
            if (!heap.isKnown(i + 1)) {
                text.putNumber(i);
            }
        }
    }

    public int writePath() {
        text.length = 0;
        for (int k = 0; k < now.linkCount; k++) {
            Link told = now.linkAt(k);
            if (told == null) {
                continue;
            }
            if (k > 0) {
                text.putSign('>');
            }
            text.putNumber(told.size);
            text.putSign('*');
            text.putNumber(now.packets.waitingOn(k));
        }
        return text.length;
    }

    public int outputByte(int index) {
        return text.byteAt(index);
    }

    // ---- what can be taken back ----

    public int undo() {
        if (backs == 0) {
            return NONE;
        }
        State before = past[placeOf(backs - 1)];
        if (before == null) {
            return NONE;
        }
        now.copyFrom(before);
        backs--;
        return backs;
    }

    public int save() {
        kept = copyInto(kept);
        return now.time;
    }

    public int restore() throws IllegalStateException {
        if (kept == null) {
            throw new IllegalStateException("nothing was saved");
        }
        now.copyFrom(kept);
        backs = 0;
        return now.time;
    }

    /** Keeps what is there now, ahead of a change. */
    private void remember() {
        if (backs == MOST_BACKS) {
            oldest = placeOf(1);
            backs--;
        }
        int place = placeOf(backs);
        past[place] = copyInto(past[place]);
        backs++;
    }

    /** Where a state that is kept stands, if the oldest one is counted as 0. */
    private int placeOf(int index) {
        return Math.floorMod(oldest + index, MOST_BACKS);
    }

    private State copyInto(State target) {
        State copy = target == null ? new State() : target;
        copy.copyFrom(now);
        return copy;
    }

    // ---- tests of arguments ----

    private Link needLink(int link) {
        Link told = now.linkAt(link);
        if (told == null) {
            throw new IndexOutOfBoundsException("there is no such link");
        }
        return told;
    }

    private Datagram needDatagram(int datagram) {
        Datagram told = now.datagramAt(datagram);
        if (told == null) {
            throw new IndexOutOfBoundsException("there is no such datagram");
        }
        return told;
    }

    private static void needRange(int value, int least, int most) {
        if (value < least || value > most) {
            throw new IllegalArgumentException("a number is out of its range");
        }
    }

    // ---- small helpers of all classes here ----

    private static int valueIn(int[] row, int index) {
        return index >= 0 && index < row.length ? row[index] : NONE;
    }

    private static void setIn(int[] row, int index, int value) {
        if (index >= 0 && index < row.length) {
            row[index] = value;
        }
    }

    /** How many bytes of a datagram each piece but the last one has. */
    private static int fullOf(int size) {
        return Math.max((size - HEAD) / 8 * 8, 8);
    }

    /** How many pieces are cut off so many bytes until the rest can go on by a SIZE. */
    private static int cutsOf(int bytes, int size) {
        int over = bytes - (size - HEAD);
        if (over <= 0) {
            return 0;
        }
        int full = Math.max(fullOf(size), 1);
        return (over + full - 1) / full;
    }

    /** A link of the path and what was counted on it. */
    private static final class Link {
        int size = 0;
        int delay = 0;
        int every = 0;
        int counted = 0;
        int lost = 0;
        int cut = 0;
        int dropped = 0;
        int bytes = 0;

        void begin(int toldSize, int toldDelay, int toldEvery) {
            size = toldSize;
            delay = toldDelay;
            every = toldEvery;
            counted = 0;
            lost = 0;
            cut = 0;
            dropped = 0;
            bytes = 0;
        }

        void copyFrom(Link other) {
            size = other.size;
            delay = other.delay;
            every = other.every;
            counted = other.counted;
            lost = other.lost;
            cut = other.cut;
            dropped = other.dropped;
            bytes = other.bytes;
        }
    }

    /** A datagram as the sender has it, and what came of it. */
    private static final class Datagram {
        static final int OPEN = 0;
        static final int TRUE = 1;
        static final int FALSE = 2;
        static final int GIVEN_UP = 3;

        int length = 0;
        int seed = 0;
        boolean isFirm = false;
        int tries = 0;
        int sentAt = 0;
        int fate = OPEN;
        int endedAt = NONE;
        int reason = 0;

        void begin(int toldLength, int toldSeed, boolean toldFirm, int time) {
            length = toldLength;
            seed = toldSeed;
            isFirm = toldFirm;
            tries = 0;
            sentAt = time;
            fate = OPEN;
            endedAt = NONE;
            reason = 0;
        }

        void close(int toldFate, int time, int toldReason) {
            fate = toldFate;
            endedAt = time;
            reason = toldReason;
        }

        boolean isHanded() {
            return fate == TRUE || fate == FALSE;
        }

        int byteAt(int index) {
            return (seed + 31 * index) & 255;
        }

        void copyFrom(Datagram other) {
            length = other.length;
            seed = other.seed;
            isFirm = other.isFirm;
            tries = other.tries;
            sentAt = other.sentAt;
            fate = other.fate;
            endedAt = other.endedAt;
            reason = other.reason;
        }
    }

    /** What the receiver has of one datagram. */
    private static final class Heap {
        static final int FREE = -1;
        static final int MOST_TOP = 1192;

        int whose = FREE;
        int start = 0;
        int end = NONE;
        int known = 0;
        int overlaps = 0;
        int arrived = 0;
        int top = 0;
        /** NONE for an unknown byte; only those below top mean anything. Made when first needed. */
        int[] values = new int[0];

        void begin(int datagram, int time) {
            if (values.length < MOST_TOP) {
                values = new int[MOST_TOP];
            }
            whose = datagram;
            start = time;
            end = NONE;
            known = 0;
            overlaps = 0;
            arrived = 0;
            top = 0;
        }

        int valueAt(int index) {
            return index >= 0 && index < top && index < values.length ? values[index] : NONE;
        }

        boolean isKnown(int index) {
            return valueAt(index) != NONE;
        }

        /** Whether a piece tells another end than the pieces ahead of it. */
        boolean isAtOdds(int last, boolean isLast) {
            if (isLast) {
                return (end != NONE && end != last) || top > last;
            }
            return end != NONE && end < last;
        }

        /** Takes the bytes of a piece; returns whether a known one is another one than that of the piece. */
        boolean isOtherTaken(Datagram own, int offset, int last, int fill, boolean isReplaced) {
            boolean isOther = false;
            reach(last);
            for (int i = Math.max(offset, 0); i < last && i < values.length; i++) {
                int value = fill == NONE ? own.byteAt(i) : fill;
                if (values[i] == NONE) {
                    values[i] = value;
                    known++;
                    continue;
                }
                overlaps++;
                if (values[i] != value) {
                    isOther = true;
                }
                if (isReplaced) {
                    values[i] = value;
                }
            }
            return isOther;
        }

        private void reach(int last) {
            for (int i = top; i < last && i < values.length; i++) {
                values[i] = NONE;
            }
            top = Math.max(top, Math.min(last, values.length));
        }

        /** No byte at END or behind it is ever known. */
        boolean isWhole() {
            return end != NONE && known == end;
        }

        boolean isOwn(Datagram own) {
            if (end != own.length) {
                return false;
            }
            for (int i = 0; i < end; i++) {
                if (valueAt(i) != own.byteAt(i)) {
                    return false;
                }
            }
            return true;
        }

        private int limit() {
            return end == NONE ? top : end;
        }

        int holeCount() {
            int count = end == NONE ? 1 : 0;
            for (int i = 0; i < limit(); i++) {
                if (isHoleStart(i)) {
                    count++;
                }
            }
            return count;
        }

        private boolean isHoleStart(int index) {
            return !isKnown(index) && (index == 0 || isKnown(index - 1));
        }

        int holeStart(int index) {
            int count = 0;
            for (int i = 0; i < limit(); i++) {
                if (isHoleStart(i)) {
                    if (count == index) {
                        return i;
                    }
                    count++;
                }
            }
            return end == NONE && count == index ? top : NONE;
        }

        int holeEnd(int from) {
            if (from >= limit()) {
                return NONE;
            }
            int last = from;
            while (last < limit() && !isKnown(last)) {
                last++;
            }
            return last;
        }

        /** The unknown bytes below END that are not from an offset up to another; NONE without END. */
        int missingFrom(int offset, int last) {
            if (end == NONE) {
                return NONE;
            }
            int count = 0;
            for (int i = 0; i < end; i++) {
                if (!isKnown(i) && (i < offset || i >= last)) {
                    count++;
                }
            }
            return count;
        }

        void copyFrom(Heap other) {
            whose = other.whose;
            start = other.start;
            end = other.end;
            known = other.known;
            overlaps = other.overlaps;
            arrived = other.arrived;
            top = other.top;
            if (whose != FREE && values.length < other.values.length) {
                values = new int[other.values.length];
            }
            int many = Math.min(top, Math.min(values.length, other.values.length));
            if (whose != FREE && many > 0) {
                System.arraycopy(other.values, 0, values, 0, many);
            }
        }
    }

    /** The packets on their way: of each link a chain, in the order in which they were put on it. */
    private static final class Packets {
        final int[] at = new int[MOST_PACKETS];
        final int[] on = new int[MOST_PACKETS];
        final int[] whose = new int[MOST_PACKETS];
        final int[] offset = new int[MOST_PACKETS];
        final int[] bytes = new int[MOST_PACKETS];
        private final int[] next = new int[MOST_PACKETS];
        private final int[] first = new int[MOST_LINKS];
        private final int[] last = new int[MOST_LINKS];
        private final int[] waiting = new int[MOST_LINKS];
        private final int[] cursor = new int[MOST_LINKS];
        private int used = 0;
        private int free = NONE;
        int count = 0;

        Packets() {
            Arrays.fill(first, NONE);
            Arrays.fill(last, NONE);
        }

        void clear() {
            Arrays.fill(first, NONE);
            Arrays.fill(last, NONE);
            Arrays.fill(waiting, 0);
            used = 0;
            free = NONE;
            count = 0;
        }

        boolean isFull() {
            return count >= MOST_PACKETS;
        }

        int waitingOn(int link) {
            return valueIn(waiting, link);
        }

        void enqueue(int link, int time, int datagram, int from, int many) {
            int slot = free == NONE ? used : free;
            if (slot < 0 || slot >= MOST_PACKETS || link < 0 || link >= MOST_LINKS) {
                return;
            }
            if (free == NONE) {
                used++;
            } else {
                free = next[slot];
            }
            at[slot] = time;
            on[slot] = link;
            whose[slot] = datagram;
            offset[slot] = from;
            bytes[slot] = many;
            next[slot] = NONE;
            int end = last[link];
            if (end >= 0 && end < MOST_PACKETS) {
                next[end] = slot;
            } else {
                first[link] = slot;
            }
            last[link] = slot;
            waiting[link]++;
            count++;
        }

        /** The first packet of a link, if it is at the next node by then; NONE if not. */
        int dueSlot(int link, int time) {
            int slot = valueIn(first, link);
            return slot != NONE && valueIn(at, slot) <= time ? slot : NONE;
        }

        void dequeue(int link) {
            int slot = valueIn(first, link);
            if (slot < 0 || slot >= MOST_PACKETS || link < 0 || link >= MOST_LINKS) {
                return;
            }
            first[link] = next[slot];
            if (first[link] == NONE) {
                last[link] = NONE;
            }
            next[slot] = free;
            free = slot;
            waiting[link]--;
            count--;
        }

        /** The packet with an index in the order of times, links and chains; NONE without it. */
        int slotInOrder(int index) {
            if (index < 0 || index >= count) {
                return NONE;
            }
            System.arraycopy(first, 0, cursor, 0, MOST_LINKS);
            int slot = NONE;
            for (int i = 0; i <= index && i < MOST_PACKETS; i++) {
                int link = soonestCursor();
                slot = valueIn(cursor, link);
                setIn(cursor, link, valueIn(next, slot));
            }
            return slot;
        }

        private int soonestCursor() {
            int best = NONE;
            for (int k = 0; k < MOST_LINKS; k++) {
                if (cursor[k] != NONE
                        && (best == NONE || valueIn(at, cursor[k]) < valueIn(at, valueIn(cursor, best)))) {
                    best = k;
                }
            }
            return best;
        }

        int countOf(int datagram) {
            int many = 0;
            for (int k = 0; k < MOST_LINKS; k++) {
                int slot = first[k];
                for (int i = 0; i < waiting[k] && slot != NONE; i++) {
                    if (valueIn(whose, slot) == datagram) {
                        many++;
                    }
                    slot = valueIn(next, slot);
                }
            }
            return many;
        }

        void copyFrom(Packets other) {
            used = Math.max(0, Math.min(other.used, MOST_PACKETS));
            free = other.free;
            count = other.count;
            System.arraycopy(other.at, 0, at, 0, used);
            System.arraycopy(other.on, 0, on, 0, used);
            System.arraycopy(other.whose, 0, whose, 0, used);
            System.arraycopy(other.offset, 0, offset, 0, used);
            System.arraycopy(other.bytes, 0, bytes, 0, used);
            System.arraycopy(other.next, 0, next, 0, used);
            System.arraycopy(other.first, 0, first, 0, MOST_LINKS);
            System.arraycopy(other.last, 0, last, 0, MOST_LINKS);
            System.arraycopy(other.waiting, 0, waiting, 0, MOST_LINKS);
        }
    }

    /**
     * The notes and answers on their way, in the order in which they were made. An answer tells NONE
     * and is about a probe of so many bytes; a note is about a datagram, or a probe of 0 less so many.
     */
    private static final class Notes {
        /** Each was made of a packet that was one of 300 on its way as long ago; six nodes make some. */
        static final int MOST_NOTES = MOST_PACKETS * (MOST_LINKS + 1);
        static final int NEVER = 1000000;

        private int[] at = new int[16];
        private int[] told = new int[16];
        private int[] about = new int[16];
        int count = 0;
        int soonest = NEVER;

        void clear() {
            count = 0;
            soonest = NEVER;
        }

        void put(int time, int size, int whom) {
            if (count < 0 || count >= MOST_NOTES) {
                return;
            }
            if (count >= at.length) {
                widen(at.length * 2);
            }
            setIn(at, count, time);
            setIn(told, count, size);
            setIn(about, count, whom);
            count++;
            soonest = Math.min(soonest, time);
        }

        private void widen(int many) {
            at = Arrays.copyOf(at, many);
            told = Arrays.copyOf(told, many);
            about = Arrays.copyOf(about, many);
        }

        boolean isDue(int index, int time) {
            return valueIn(at, index) <= time;
        }

        int toldBy(int index) {
            return valueIn(told, index);
        }

        int aboutOf(int index) {
            return index >= 0 && index < about.length ? about[index] : 0;
        }

        void move(int from, int to) {
            setIn(at, to, valueIn(at, from));
            setIn(told, to, toldBy(from));
            setIn(about, to, aboutOf(from));
        }

        void cut(int many) {
            count = many;
            soonest = NEVER;
            for (int i = 0; i < count; i++) {
                soonest = Math.min(soonest, valueIn(at, i));
            }
        }

        int answers() {
            int many = 0;
            for (int i = 0; i < count; i++) {
                if (toldBy(i) == NONE) {
                    many++;
                }
            }
            return many;
        }

        void copyFrom(Notes other) {
            if (at.length < other.count) {
                widen(other.at.length);
            }
            count = Math.max(0, Math.min(other.count, at.length));
            soonest = other.soonest;
            System.arraycopy(other.at, 0, at, 0, count);
            System.arraycopy(other.told, 0, told, 0, count);
            System.arraycopy(other.about, 0, about, 0, count);
        }
    }

    /** What was counted since the path began. */
    private static final class Accounts {
        int counted = 0;
        int lost = 0;
        int crowded = 0;
        int cut = 0;
        int dropped = 0;
        int arrived = 0;
        int strays = 0;
        int overlaps = 0;
        int heard = 0;
        int answered = 0;
        int forged = 0;
        int handed = 0;
        /** Packets that came to the end of a link. */
        int ended = 0;

        int numberOf(int what) {
            switch (what) {
                case 0:
                    return counted;
                case 1:
                    return lost;
                case 2:
                    return crowded;
                case 3:
                    return cut;
                case 4:
                    return dropped;
                case 5:
                    return arrived;
                case 6:
                    return strays;
                case 7:
                    return overlaps;
                case 8:
                    return heard;
                case 9:
                    return answered;
                case 10:
                    return forged;
                default:
                    return handed;
            }
        }

        void clear() {
            counted = 0;
            lost = 0;
            crowded = 0;
            cut = 0;
            dropped = 0;
            arrived = 0;
            strays = 0;
            overlaps = 0;
            heard = 0;
            answered = 0;
            forged = 0;
            handed = 0;
            ended = 0;
        }

        void copyFrom(Accounts other) {
            counted = other.counted;
            lost = other.lost;
            crowded = other.crowded;
            cut = other.cut;
            dropped = other.dropped;
            arrived = other.arrived;
            strays = other.strays;
            overlaps = other.overlaps;
            heard = other.heard;
            answered = other.answered;
            forged = other.forged;
            handed = other.handed;
            ended = other.ended;
        }
    }

    /** All that a change can change: the path, the sender, the receiver and what is on its way. */
    private static final class State {
        private static final int FIRST_LIFE = 60;
        private static final int FIRST_LOW = 27;
        private static final int MOST_OWN_TRIES = 3;
        /** A piece cut by what a note of node 0 told fits the link 0, so one level is enough. */
        private static final int MOST_DEPTH = 4;

        private static final int REASON_LIFE = 1;
        private static final int REASON_CROWD = 2;
        private static final int REASON_ODDS = 3;
        private static final int REASON_OTHER = 4;

        private static final int POLICY_REPLACE = 1;
        private static final int POLICY_REFUSE = 2;

        int time = 0;
        int life = FIRST_LIFE;
        int policy = 0;
        int path = LEAST_SIZE;
        int low = FIRST_LOW;
        int high = NONE;
        int linkCount = 0;
        int datagramCount = 0;
        private final Link[] links = new Link[MOST_LINKS];
        private final Datagram[] datagrams = new Datagram[MOST_DATAGRAMS];
        private final Heap[] heaps = new Heap[MOST_HEAPS];
        final Packets packets = new Packets();
        final Notes notes = new Notes();
        final Accounts accounts = new Accounts();

        State() {
            for (int i = 0; i < MOST_LINKS; i++) {
                links[i] = new Link();
            }
            for (int i = 0; i < MOST_DATAGRAMS; i++) {
                datagrams[i] = new Datagram();
            }
            for (int i = 0; i < MOST_HEAPS; i++) {
                heaps[i] = new Heap();
            }
        }

        void clear() {
            time = 0;
            life = FIRST_LIFE;
            policy = 0;
            linkCount = 0;
            datagramCount = 0;
            for (int i = 0; i < MOST_HEAPS; i++) {
                heaps[i].whose = Heap.FREE;
            }
            packets.clear();
            notes.clear();
            accounts.clear();
        }

        void copyFrom(State other) {
            time = other.time;
            life = other.life;
            policy = other.policy;
            path = other.path;
            low = other.low;
            high = other.high;
            linkCount = other.linkCount;
            datagramCount = other.datagramCount;
            for (int i = 0; i < linkCount && i < MOST_LINKS; i++) {
                links[i].copyFrom(other.links[i]);
            }
            for (int i = 0; i < datagramCount && i < MOST_DATAGRAMS; i++) {
                datagrams[i].copyFrom(other.datagrams[i]);
            }
            for (int i = 0; i < MOST_HEAPS; i++) {
                heaps[i].copyFrom(other.heaps[i]);
            }
            packets.copyFrom(other.packets);
            notes.copyFrom(other.notes);
            accounts.copyFrom(other.accounts);
        }

        // the path

        void addLink(int size, int delay, int every) {
            if (linkCount >= 0 && linkCount < MOST_LINKS) {
                links[linkCount].begin(size, delay, every);
                linkCount++;
            }
        }

        Link linkAt(int link) {
            return link >= 0 && link < linkCount && link < MOST_LINKS ? links[link] : null;
        }

        int delaysAhead(int node) {
            int ticks = 0;
            for (int k = 0; k < node && k < linkCount && k < MOST_LINKS; k++) {
                ticks += links[k].delay;
            }
            return ticks;
        }

        /** Puts a packet on a link; returns whether its datagram is to be sent again at once. */
        boolean put(int on, int whose, int offset, int bytes) {
            Link link = linkAt(on);
            if (link == null) {
                return false;
            }
            if (bytes > link.size && isFirm(whose)) {
                link.dropped++;
                accounts.dropped++;
                int ticks = delaysAhead(on);
                int about = whose == NONE ? -bytes : whose;
                if (ticks == 0) {
                    return noteComes(link.size, about);
                }
                notes.put(time + ticks, link.size, about);
                return false;
            }
            int cuts = cutsOf(bytes - HEAD, link.size);
            int full = fullOf(link.size);
            if (cuts > 0) {
                link.cut++;
                accounts.cut++;
            }
            for (int i = 0; i < cuts; i++) {
                carry(on, whose, offset + i * full, full + HEAD);
            }
            carry(on, whose, cuts > 0 ? offset + cuts * full : offset, bytes - cuts * full);
            return false;
        }

        /** Has a packet that is narrow enough go on a link. */
        private void carry(int on, int whose, int offset, int bytes) {
            Link link = linkAt(on);
            if (link == null) {
                return;
            }
            link.counted++;
            link.bytes += bytes;
            accounts.counted++;
            if (link.every > 0 && link.counted % link.every == 0) {
                link.lost++;
                accounts.lost++;
            } else if (packets.isFull()) {
                accounts.crowded++;
            } else {
                packets.enqueue(on, time + link.delay, whose, offset, bytes);
            }
        }

        boolean isFirm(int whose) {
            return whose < 0 || whose >= MOST_DATAGRAMS || datagrams[whose].isFirm;
        }

        /** MORE of a piece is true just if it does not reach to the end of its datagram. */
        boolean hasMore(int slot) {
            Datagram own = datagramAt(valueIn(packets.whose, slot));
            return own != null
                    && valueIn(packets.offset, slot) + valueIn(packets.bytes, slot) - HEAD < own.length;
        }

        // the sender

        Datagram datagramAt(int datagram) {
            return datagram >= 0 && datagram < datagramCount && datagram < MOST_DATAGRAMS
                    ? datagrams[datagram] : null;
        }

        void unlearn() {
            Link link = linkAt(0);
            path = link == null ? LEAST_SIZE : link.size;
            low = FIRST_LOW;
            high = NONE;
        }

        /** Sends a new datagram; returns its number, or NONE if there are too many. */
        int sendNew(int bytes, int seed, boolean isFirm) {
            int number = datagramCount;
            if (number < 0 || number >= MOST_DATAGRAMS) {
                return NONE;
            }
            datagrams[number].begin(bytes, seed, isFirm, time);
            datagramCount++;
            transmit(number, 0);
            return number;
        }

        void sendProbe(int bytes) {
            put(0, NONE, NONE, bytes);
        }

        /** Sends all of a datagram; a note of the node 0 may have it sent again between its pieces. */
        void transmit(int datagram, int depth) {
            Datagram own = datagramAt(datagram);
            if (own == null || depth > MOST_DEPTH) {
                return;
            }
            own.tries++;
            int full = fullOf(path);
            int cuts = own.isFirm ? cutsOf(own.length, path) : 0;
            for (int i = 0; i <= cuts; i++) {
                int bytes = i < cuts ? full : own.length - cuts * full;
                if (put(0, datagram, i * full, bytes + HEAD)) {
                    transmit(datagram, depth + 1);
                }
            }
        }

        /** Hears a note; returns whether the datagram that it is about is to be sent again. */
        private boolean noteComes(int size, int about) {
            accounts.heard++;
            boolean isLess = size < path;
            if (isLess) {
                path = size;
            }
            if (about < 0) {
                if (high == NONE || high > -about) {
                    high = -about;
                }
                return false;
            }
            if (!isLess || about >= MOST_DATAGRAMS) {
                return false;
            }
            Datagram own = datagrams[about];
            return own.tries < MOST_OWN_TRIES && own.fate == Datagram.OPEN;
        }

        private void answerComes(int bytes) {
            accounts.answered++;
            low = Math.max(low, bytes);
        }

        // the receiver

        Heap heapOf(int datagram) {
            for (int i = 0; i < MOST_HEAPS; i++) {
                if (datagram >= 0 && heaps[i].whose == datagram) {
                    return heaps[i];
                }
            }
            return null;
        }

        int heapCount() {
            int count = 0;
            for (int i = 0; i < MOST_HEAPS; i++) {
                if (heaps[i].whose != Heap.FREE) {
                    count++;
                }
            }
            return count;
        }

        /** Has a forged piece come, if there is its datagram. */
        boolean isForged(int datagram, int offset, int bytes, int fill, boolean isLast) {
            if (datagramAt(datagram) == null) {
                return false;
            }
            accounts.forged++;
            receive(datagram, offset, bytes, fill, isLast);
            return true;
        }

        /** A piece comes to the receiver, with its own bytes if fill is NONE. */
        private void receive(int whose, int offset, int bytes, int fill, boolean isLast) {
            accounts.arrived++;
            Datagram own = datagramAt(whose);
            if (own == null || own.fate != Datagram.OPEN) {
                accounts.strays++;
                return;
            }
            Heap heap = heapFor(whose);
            heap.arrived++;
            int last = offset + bytes;
            if (heap.isAtOdds(last, isLast)) {
                giveUp(heap, REASON_ODDS);
                return;
            }
            if (isLast) {
                heap.end = last;
            }
            int before = heap.overlaps;
            boolean isOther = heap.isOtherTaken(own, offset, last, fill, policy == POLICY_REPLACE);
            accounts.overlaps += heap.overlaps - before;
            if (isOther && policy == POLICY_REFUSE) {
                giveUp(heap, REASON_OTHER);
            } else if (heap.isWhole()) {
                handOver(heap, own);
            }
        }

        /** The heap of a datagram; one is begun if there is none. */
        private Heap heapFor(int datagram) {
            Heap heap = heapOf(datagram);
            if (heap != null) {
                return heap;
            }
            Heap place = firstHeap();
            if (place.whose != Heap.FREE) {
                giveUp(place, REASON_CROWD);
            }
            place.begin(datagram, time);
            return place;
        }

        /** A heap that is free, or else the one that goes first. */
        private Heap firstHeap() {
            Heap best = heaps[0];
            for (int i = 0; i < MOST_HEAPS; i++) {
                Heap heap = heaps[i];
                if (heap.whose == Heap.FREE) {
                    return heap;
                }
                if (heap.start < best.start || (heap.start == best.start && heap.whose < best.whose)) {
                    best = heap;
                }
            }
            return best;
        }

        private void giveUp(Heap heap, int reason) {
            Datagram own = datagramAt(heap.whose);
            if (own != null) {
                own.close(Datagram.GIVEN_UP, time, reason);
            }
            heap.whose = Heap.FREE;
        }

        private void handOver(Heap heap, Datagram own) {
            own.close(heap.isOwn(own) ? Datagram.TRUE : Datagram.FALSE, time, 0);
            accounts.handed += heap.end;
            heap.whose = Heap.FREE;
        }

        // a tick

        void tick() {
            time++;
            for (int k = 0; k < linkCount; k++) {
                moveDue(k);
            }
            if (notes.soonest <= time) {
                hearDue();
            }
            for (int i = 0; i < MOST_HEAPS; i++) {
                if (heaps[i].whose != Heap.FREE && time - heaps[i].start >= life) {
                    giveUp(heaps[i], REASON_LIFE);
                }
            }
        }

        private void moveDue(int link) {
            for (int i = 0; i < MOST_PACKETS; i++) {
                int slot = packets.dueSlot(link, time);
                if (slot == NONE) {
                    return;
                }
                int whose = valueIn(packets.whose, slot);
                int offset = valueIn(packets.offset, slot);
                int bytes = valueIn(packets.bytes, slot);
                boolean isLast = !hasMore(slot);
                packets.dequeue(link);
                accounts.ended++;
                if (link + 1 < linkCount) {
                    put(link + 1, whose, offset, bytes);
                } else if (whose == NONE) {
                    notes.put(time + delaysAhead(linkCount), NONE, bytes);
                } else {
                    receive(whose, offset, bytes - HEAD, NONE, isLast);
                }
            }
        }

        private void hearDue() {
            int waiting = 0;
            for (int i = 0; i < notes.count && i < Notes.MOST_NOTES; i++) {
                int about = notes.aboutOf(i);
                int size = notes.toldBy(i);
                if (!notes.isDue(i, time)) {
                    notes.move(i, waiting);
                    waiting++;
                } else if (size == NONE) {
                    answerComes(about);
                } else if (noteComes(size, about)) {
                    transmit(about, 0);
                }
            }
            notes.cut(waiting);
        }

        // counts

        boolean isQuiet() {
            return packets.count == 0 && notes.count == 0 && heapCount() == 0;
        }

        int fateCount(int fate) {
            int count = 0;
            for (int i = 0; i < datagramCount && i < MOST_DATAGRAMS; i++) {
                if (datagrams[i].fate == fate) {
                    count++;
                }
            }
            return count;
        }

        int handedCount() {
            return fateCount(Datagram.TRUE) + fateCount(Datagram.FALSE);
        }

        int triesTogether() {
            int tries = 0;
            for (int i = 0; i < datagramCount && i < MOST_DATAGRAMS; i++) {
                tries += datagrams[i].tries;
            }
            return tries;
        }
    }

    /** The input buffer, and the statements of the text that was read last. */
    private static final class Reader {
        static final int LINK = 0;
        static final int LIFE = 1;
        static final int POLICY = 2;
        static final int SEND = 3;
        static final int AGAIN = 4;
        static final int PROBE = 5;
        static final int FORGE = 6;
        static final int SIZE = 7;
        static final int EVERY = 8;
        static final int PASS = 9;

        private static final int KINDS = 10;
        private static final int MOST_INPUT = 500;
        private static final int MOST_STATEMENTS = 48;
        private static final int MOST_ORDERS = 30;
        private static final int MOST_NUMBERS = 4;
        private static final int MOST_DIGITS = 4;

        private static final int ERROR_PLACE = 1;
        private static final int ERROR_RANGE = 2;
        private static final int ERROR_TWICE = 3;
        private static final int ERROR_MANY = 4;

        /** How many numbers stand behind the word of each kind. */
        private static final int[] NUMBERS = {3, 1, 1, 2, 1, 1, 4, 2, 2, 1};
        /** The least and the greatest of each number, four of each kind. */
        private static final int[] LEAST = {
            28, 1, 0, 0, 1, 0, 0, 0, 0, 0, 0, 0, 1, 0, 0, 0, 0, 0, 0, 0,
            28, 0, 0, 0, 0, 0, 1, 0, 0, 28, 0, 0, 0, 0, 0, 0, 1, 0, 0, 0};
        private static final int[] GREATEST = {
            1500, 50, 99, 0, 200, 0, 0, 0, 2, 0, 0, 0, 1000, 255, 0, 0, 39, 0, 0, 0,
            1500, 0, 0, 0, 39, 992, 200, 255, 5, 1500, 0, 0, 5, 99, 0, 0, 500, 0, 0, 0};

        private final byte[] input = new byte[MOST_INPUT];
        int length = 0;
        private int place = 0;
        private boolean isOrders = false;
        int error = 0;
        int errorAt = NONE;
        int count = 0;
        private final int[] kinds = new int[MOST_STATEMENTS];
        private final int[] numbers = new int[MOST_STATEMENTS * MOST_NUMBERS];
        private final boolean[] options = new boolean[MOST_STATEMENTS];
        private final int[] tallies = new int[KINDS];

        boolean hasRoomForFive() {
            return length + 20 <= MOST_INPUT;
        }

        void takeNumber(int number) {
            for (int shift = 24; shift >= 0; shift -= 8) {
                if (length >= 0 && length < MOST_INPUT) {
                    input[length] = (byte) (number >> shift);
                    length++;
                }
            }
        }

        int kindOf(int statement) {
            return statement < count ? valueIn(kinds, statement) : NONE;
        }

        int numberOf(int statement, int which) {
            return valueIn(numbers, statement * MOST_NUMBERS + which);
        }

        boolean hasOption(int statement) {
            return statement >= 0 && statement < MOST_STATEMENTS && options[statement];
        }

        /** Reads the buffer as orders or as a description, and empties it. */
        boolean isWellRead(boolean asOrders) {
            isOrders = asOrders;
            place = 0;
            error = 0;
            errorAt = NONE;
            count = 0;
            Arrays.fill(tallies, 0);
            skipSpaces();
            boolean isGoingOn = !isOrders || place < length;
            for (int i = 0; i < MOST_INPUT && isGoingOn; i++) {
                isGoingOn = isStatementRead() && isAnotherDue();
            }
            length = 0;
            return error == 0;
        }

        private boolean isFailed(int kind, int position) {
            error = kind;
            errorAt = position;
            return false;
        }

        /** The byte at the place, 0 behind the text. */
        private int sign() {
            return place >= 0 && place < length && place < MOST_INPUT ? input[place] & 255 : 0;
        }

        private boolean isLetter() {
            return sign() >= 'a' && sign() <= 'z';
        }

        private boolean isDigit() {
            return sign() >= '0' && sign() <= '9';
        }

        private void skipSpaces() {
            while (place < length && sign() == ' ') {
                place++;
            }
        }

        /** Reads what stands behind a statement; returns whether another one must come. */
        private boolean isAnotherDue() {
            if (place >= length && !isOrders) {
                return false;
            }
            if (sign() != ';') {
                return isFailed(ERROR_PLACE, place);
            }
            place++;
            skipSpaces();
            return !isOrders || place < length;
        }

        private boolean isStatementRead() {
            int from = place;
            int kind = readKind();
            if (kind == NONE || (!isOrders && count == 0 && kind != LINK)) {
                return isFailed(ERROR_PLACE, from);
            }
            if (valueIn(tallies, kind) > 0 && (kind == LIFE || kind == POLICY)) {
                return isFailed(ERROR_TWICE, from);
            }
            if (isTooMany(kind) || count < 0 || count >= MOST_STATEMENTS) {
                return isFailed(ERROR_MANY, from);
            }
            setIn(tallies, kind, valueIn(tallies, kind) + 1);
            for (int i = 0; i < valueIn(NUMBERS, kind); i++) {
                if (!isNumberRead(kind, i)) {
                    return false;
                }
            }
            kinds[count] = kind;
            options[count] = isOptionRead(kind);
            count++;
            return true;
        }

        private boolean isTooMany(int kind) {
            if (isOrders) {
                return count >= MOST_ORDERS;
            }
            return (kind == LINK && valueIn(tallies, LINK) >= MOST_LINKS)
                    || (kind == SEND && valueIn(tallies, SEND) >= MOST_DATAGRAMS);
        }

        /** Reads a word; returns its kind, or NONE if it cannot stand here. */
        private int readKind() {
            int from = place;
            skipWord();
            for (int kind = 0; kind < KINDS; kind++) {
                boolean isFit = isOrders ? kind >= SEND : kind <= SEND;
                if (isFit && isWord(from, wordOf(kind))) {
                    skipSpaces();
                    return kind;
                }
            }
            return NONE;
        }

        private void skipWord() {
            while (place < length && isLetter()) {
                place++;
            }
        }

        /** Whether the bytes from an index up to the place are a word. */
        private boolean isWord(int from, String word) {
            if (place - from != word.length()) {
                return false;
            }
            for (int i = 0; i < word.length(); i++) {
                int index = from + i;
                if (index < 0 || index >= MOST_INPUT || input[index] != word.charAt(i)) {
                    return false;
                }
            }
            return true;
        }

        private static String wordOf(int kind) {
            switch (kind) {
                case LINK:
                    return "link";
                case LIFE:
                    return "life";
                case POLICY:
                    return "policy";
                case SEND:
                    return "send";
                case AGAIN:
                    return "again";
                case PROBE:
                    return "probe";
                case FORGE:
                    return "forge";
                case SIZE:
                    return "size";
                case EVERY:
                    return "every";
                default:
                    return "pass";
            }
        }

        private boolean isNumberRead(int kind, int which) {
            int from = place;
            int value = 0;
            int digits = 0;
            while (place < length && isDigit()) {
                if (digits < MOST_DIGITS) {
                    value = value * 10 + sign() - '0';
                }
                digits++;
                place++;
            }
            if (digits == 0 || digits > MOST_DIGITS) {
                return isFailed(ERROR_PLACE, from);
            }
            int range = kind * MOST_NUMBERS + which;
            boolean isOdd = kind == FORGE && which == 1 && value % 8 != 0;
            if (value < valueIn(LEAST, range) || value > valueIn(GREATEST, range) || isOdd) {
                return isFailed(ERROR_RANGE, from);
            }
            setIn(numbers, count * MOST_NUMBERS + which, value);
            skipSpaces();
            return true;
        }

        /** Reads the word that may stand last; another word is left where it is. */
        private boolean isOptionRead(int kind) {
            if (kind != SEND && kind != FORGE) {
                return false;
            }
            int from = place;
            skipWord();
            if (isWord(from, kind == SEND ? "firm" : "more")) {
                skipSpaces();
                return true;
            }
            place = from;
            return false;
        }
    }

    /** The output text. */
    private static final class Text {
        private static final int MOST_OUTPUT = 2048;

        private final byte[] output = new byte[MOST_OUTPUT];
        int length = 0;

        void putSign(int sign) {
            if (length >= 0 && length < MOST_OUTPUT) {
                output[length] = (byte) sign;
                length++;
            }
        }

        void putNumber(int number) {
            int unit = 1;
            while (unit <= number / 10 && unit < 100000000) {
                unit *= 10;
            }
            while (unit > 0) {
                putSign('0' + number / unit % 10);
                unit /= 10;
            }
        }

        int byteAt(int index) {
            return index >= 0 && index < length && index < MOST_OUTPUT ? output[index] & 255 : NONE;
        }
    }
}
