import java.util.ArrayList;
import java.util.List;
import java.util.Random;

/**
 * Runs of calls, made from fixed seeds, on FragmentPath and on NaivePath: all answers must be alike.
 * The runs have more than the 512 calls that the document promises; neither class has such a bound.
 */
public final class RunsTest {
    private static final int CALLS = 220;

    private final Random random;
    private final int seed;
    private final Object path = new FragmentPath();
    private final Object naive = new NaivePath();
    private final List<String> told = new ArrayList<>();
    private int wrong = 0;

    private RunsTest(int seed) {
        this.seed = seed;
        this.random = new Random(seed);
    }

    public static void main(String[] args) {
        int runs = args.length > 0 ? Integer.parseInt(args[0]) : 250;
        int first = args.length > 1 ? Integer.parseInt(args[1]) : 1;
        int wrong = 0;
        for (int seed = first; seed < first + runs && wrong < 5; seed++) {
            wrong += new RunsTest(seed).run();
        }
        if (wrong > 0) {
            System.exit(1);
        }
        System.out.println(runs + " runs are alike");
    }

    private int run() {
        for (int i = 0; i < CALLS && wrong == 0; i++) {
            step();
            compareAll();
        }
        return wrong;
    }

    private String both(String name, Object... arguments) {
        String got = Faces.call(path, name, arguments);
        String due = Faces.call(naive, name, arguments);
        StringBuilder line = new StringBuilder(name).append(List.of(arguments)).append(" -> ").append(due);
        told.add(line.toString());
        if (!got.equals(due)) {
            wrong++;
            System.out.println("seed " + seed + ": got " + got + " where due is");
            for (String one : told.subList(Math.max(0, told.size() - 60), told.size())) {
                System.out.println("  " + one);
            }
        }
        return due;
    }

    /** A call of a getter, told only if it is wrong. */
    private String same(String name, Object... arguments) {
        if (wrong > 0) {
            return "0";
        }
        String due = both(name, arguments);
        if (wrong == 0) {
            told.remove(told.size() - 1);
        }
        return due;
    }

    private int number(String name, Object... arguments) {
        return Integer.parseInt(same(name, arguments));
    }

    private int any(int least, int most) {
        return least + random.nextInt(most - least + 1);
    }

    /** Mostly in the range, sometimes at its ends or just outside of it. */
    private int near(int least, int most) {
        switch (random.nextInt(24)) {
            case 0: return least;
            case 1: return most;
            case 2: return least - 1;
            case 3: return most + 1;
            case 4: return random.nextInt();
            default: return any(least, most);
        }
    }

    private int aLink() {
        return random.nextInt(30) == 0 ? any(-1, 7) : any(0, Math.max(0, number("size", 0) - 1));
    }

    private int aDatagram() {
        return random.nextInt(30) == 0 ? any(-1, 41) : any(0, Math.max(0, number("size", 1) - 1));
    }

    private int aSize() {
        switch (random.nextInt(6)) {
            case 0: return near(28, 1500);
            case 1: return any(28, 40);
            case 2: return any(400, 1100);
            default: return any(28, 240);
        }
    }

    private int aLong() {
        return random.nextInt(3) == 0 ? near(1, 1000) : any(1, 300);
    }

    private int anEvery() {
        return random.nextInt(2) == 0 ? 0 : random.nextInt(8) == 0 ? near(0, 99) : any(1, 9);
    }

    private void step() {
        switch (random.nextInt(26)) {
            case 0: typeAndRead(); break;
            case 1: case 2: typeAndRun(); break;
            case 3: case 4: case 5: both("send", aLong(), near(0, 255), random.nextBoolean()); break;
            case 6: case 7: both("again", aDatagram()); break;
            case 8: case 9: both("probe", aSize()); break;
            case 10: case 11: case 12: case 13: forge(); break;
            case 14: both("setSize", aLink(), aSize()); break;
            case 15: both("setEvery", aLink(), anEvery()); break;
            case 16: both("setLife", near(1, random.nextBoolean() ? 200 : 20)); break;
            case 17: both("setPolicy", near(0, 2)); break;
            case 18: both("forget"); break;
            case 19: case 20: case 21: both("pass", random.nextInt(12) == 0 ? near(1, 500) : any(1, 6)); break;
            case 22: both("undo"); break;
            case 23: both(random.nextInt(3) == 0 ? "restore" : random.nextInt(2) == 0 ? "save" : "undo"); break;
            case 24: rawInput(); break;
            default: foretell(); break;
        }
    }

    private void forge() {
        int offset = random.nextInt(20) == 0 ? near(0, 992) : 8 * any(0, random.nextInt(3) == 0 ? 124 : 12);
        both("forge", aDatagram(), offset, near(1, random.nextBoolean() ? 200 : 24), near(0, 255),
                random.nextInt(4) > 0);
    }

    private void rawInput() {
        if (random.nextBoolean()) {
            both("append", random.nextInt(), random.nextInt(), random.nextInt(), random.nextInt(), random.nextInt());
        }
        both("truncate", random.nextBoolean() ? 0 : any(-1, 501));
    }

    private void foretell() {
        both("quietIn");
        both("pathIn", near(0, 600));
        both("handedBy", near(1, 200), near(0, 2));
        both("handedIn", aDatagram());
        both("endIn", aDatagram());
        both("pieces", near(1, 1000), aLink());
        both("burden", near(1, 1000));
        if (random.nextInt(12) == 0) {
            both("bestLong", near(1, 3000));
        }
    }

    private void type(String text) {
        both("truncate", 0);
        for (int i = 0; i < text.length(); i += 20) {
            both("append", Faces.numbers(text, i));
        }
        both("truncate", Math.min(500, text.length()));
    }

    private void typeAndRead() {
        type(spoiled(description()));
        both("readText");
    }

    private void typeAndRun() {
        type(spoiled(orders()));
        both("runOrders");
    }

    private String description() {
        StringBuilder text = new StringBuilder();
        text.append("link ").append(aSize()).append(' ').append(any(1, 5)).append(' ').append(anEvery());
        int many = random.nextInt(8) == 0 ? any(8, 60) : any(0, 9);
        for (int i = 0; i < many && text.length() < 470; i++) {
            text.append(';');
            int kind = random.nextInt(many > 9 ? 40 : 8);
            if (kind < 3) {
                text.append("link ").append(aSize()).append(' ').append(any(1, 6)).append(' ').append(anEvery());
            } else if (kind == 3) {
                text.append("life ").append(near(1, 200));
            } else if (kind == 4) {
                text.append("policy ").append(near(0, 2));
            } else {
                text.append("send ").append(aLong()).append(' ').append(any(0, 255));
                text.append(random.nextBoolean() ? " firm" : "");
            }
        }
        return text.toString();
    }

    private String orders() {
        StringBuilder text = new StringBuilder();
        int many = random.nextInt(8) == 0 ? any(26, 34) : any(0, 9);
        for (int i = 0; i < many && text.length() < 470; i++) {
            switch (random.nextInt(many > 9 ? 4 : 9)) {
                case 0: text.append("again ").append(Math.max(0, aDatagram())); break;
                case 1: text.append("probe ").append(aSize()); break;
                case 2: text.append("pass ").append(any(1, 9)); break;
                case 3: text.append("every ").append(any(0, 1)).append(' ').append(anEvery()); break;
                case 4: text.append("size ").append(any(0, 3)).append(' ').append(aSize()); break;
                case 5: case 6:
                    text.append("send ").append(aLong()).append(' ').append(any(0, 255));
                    text.append(random.nextBoolean() ? "firm" : "");
                    break;
                default:
                    text.append("forge ").append(Math.max(0, aDatagram())).append(' ').append(8 * any(0, 13));
                    text.append(' ').append(any(1, 40)).append(' ').append(near(0, 255));
                    text.append(random.nextInt(3) > 0 ? "more" : "");
                    break;
            }
            text.append(random.nextInt(5) == 0 ? " ; " : ";");
        }
        return text.toString();
    }

    /** Mostly the text as it is; sometimes with a byte or two put in, left out or changed. */
    private String spoiled(String text) {
        StringBuilder spoiled = new StringBuilder(text);
        if (random.nextInt(3) > 0) {
            return text;
        }
        String signs = "  ;;09 5aflmn#\u00e9";
        for (int i = any(1, 2); i > 0; i--) {
            char sign = signs.charAt(random.nextInt(signs.length()));
            int at = random.nextInt(spoiled.length() + 1);
            switch (random.nextInt(4)) {
                case 0: spoiled.insert(at, sign); break;
                case 1: spoiled.setLength(at); break;
                default:
                    if (at < spoiled.length()) {
                        if (random.nextBoolean()) {
                            spoiled.deleteCharAt(at);
                        } else {
                            spoiled.setCharAt(at, sign);
                        }
                    }
                    break;
            }
        }
        return spoiled.toString();
    }

    private void each(String name, int most) {
        for (int what = -1; what <= most + 1; what++) {
            same(name, what);
        }
    }

    private void each(String name, int index, int most) {
        for (int what = random.nextInt(20) == 0 ? -1 : 0; what <= most; what++) {
            same(name, index, what);
        }
    }

    private void compareAll() {
        each("size", 15);
        each("account", 11);
        for (String name : List.of("errorCode", "errorPosition", "gap", "narrowest", "wholeDelay", "nextProbe",
                "isFound", "trueShare", "meanTries")) {
            same(name);
        }
        if (wrong > 0) {
            return;
        }
        for (int k = 0; k < number("size", 0); k++) {
            each("link", k, 8);
        }
        for (int d = random.nextInt(2) - 1; d < number("size", 1); d++) {
            each("datagram", d, 8);
            compareHeap(d);
        }
        int packets = number("size", 8);
        for (int i = 0; i <= packets; i += packets > 30 ? any(1, 60) : 1) {
            each("packet", i, 6);
        }
        int length = number("writePath");
        for (int i = -1; i <= length; i++) {
            same("outputByte", i);
        }
    }

    private void compareHeap(int d) {
        each("heap", d, 6);
        if (wrong > 0 || same("heap", d, 0).equals("-1") || same("heap", d, 0).startsWith("throws")) {
            return;
        }
        int holes = number("heap", d, 3);
        for (int i = -1; i <= holes; i++) {
            same("hole", d, i, 0);
            same("hole", d, i, 1);
        }
        same("missing", d);
        int from = Math.max(0, number("hole", d, 0, 0) + any(-1, 1));
        int bytes = Math.min(1000, Math.max(1, number("hole", d, holes - 1, 1) - from + any(-1, 1)));
        same("fills", d, near(0, 1000), near(1, 1000));
        same("fills", d, from, bytes);
        for (int i = -1; i < 1195; i += random.nextInt(20) == 0 ? 1 : any(1, 60)) {
            same("heapByte", d, i);
        }
        same("ownByte", d, near(0, 1000));
        int length = number("writeHeap", d);
        for (int i = -1; i <= length; i++) {
            same("outputByte", i);
        }
    }
}
