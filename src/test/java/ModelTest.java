import java.lang.reflect.InvocationTargetException;
import java.lang.reflect.Method;
import java.util.ArrayList;
import java.util.HashMap;
import java.util.List;
import java.util.Map;

/** Long runs of calls, the same ones always, on a BitDesk and on a SlowDesk: each answer must be the same. */
final class ModelTest {
    // s slot, n node, c column behind the last one too, i index, w what, b block, p place, e exponent, l long, t truth
    private static final String[] CALLS = {
        "count w", "bit snn", "row sn", "rank snc", "select sni", "ones s", "columnOnes sn", "sameAs sn", "classes s",
        "classOf sn", "find sl", "nearest sn", "density s", "isSymmetric s", "reaches snn", "reached sn", "pairs s",
        "meanReach s", "component sn", "components s", "distance snn", "stepAt snni", "around sn", "girth s",
        "order si", "gained snn", "lost snn", "bestEdge s", "weakest s", "triangles s", "fieldRank s", "solve sl",
        "freedom sl", "pivot si", "put snnt", "setRow snl", "copy ss", "transpose ss", "combine sssw",
        "product ssst", "power sest", "invert ss", "close ss", "reduce ss", "exchange snn", "keep st", "setBlock b",
        "kept sw", "work w", "writeRow sn", "outputByte i", "undo", "saveSnapshot p", "restoreSnapshot p",
        "load", "loadError", "loadStatement", "append l"
    };
    // These are called more often than their turn, so that matrices change between the questions.
    private static final String[] OFTEN = {"put snnt", "put snnt", "put snnt", "lost snn", "kept sw", "setRow snl", "undo"};
    private static final String[] WORDS = {"size", "edge", "row", "fill", "keep", "block", "unit", "ones", "ring", "lower", "x"};

    // An object answers 512 calls: the last load can take 71 of them, and what is asked at the end up to 54.
    private static final int MOST_CALLS = 512 - 71 - 54;

    private static long seed = 20261119;
    private static final Map<String, Method> ON_DESK = new HashMap<>();
    private static final Map<String, Method> ON_MODEL = new HashMap<>();

    public static void main(String[] args) throws Exception {
        int runs = args.length > 0 ? Integer.parseInt(args[0]) : 1500;
        seed = args.length > 1 ? Long.parseLong(args[1]) : seed;
        for (Method method : BitDesk.class.getDeclaredMethods()) {
            ON_DESK.put(method.getName(), method);
        }
        for (Method method : SlowDesk.class.getDeclaredMethods()) {
            ON_MODEL.put(method.getName(), method);
        }
        for (int run = 0; run < runs; run++) {
            compareRun(run);
        }
        Check.end("ModelTest");
    }

    private static void compareRun(int run) throws Exception {
        BitDesk desk = new BitDesk();
        SlowDesk model = new SlowDesk();
        List<String> told = new ArrayList<>();
        int calls = 0;
        boolean isSame = true;
        int least = run % 40 == 0 ? 24 : 1;
        int most = run % 40 == 0 ? 32 : run % 3 == 0 ? 4 : 9;
        int limit = run % 40 == 0 ? 120 : MOST_CALLS;
        while (calls < limit && isSame) {
            if (calls == 0 || below(90) == 0) {
                String text = below(3) == 0 ? brokenText(least, most) : text(least, most);
                for (int from = 0; from < text.length() && isSame; from += 8) {
                    isSame = compareCall(desk, model, "append", new Object[] {bytes(text, from)}, told);
                    calls++;
                }
                isSame = isSame && compareCall(desk, model, "load", new Object[0], told);
                calls++;
            } else {
                String call = below(3) == 0 ? OFTEN[below(OFTEN.length)] : CALLS[below(CALLS.length)];
                String kinds = call.contains(" ") ? call.substring(call.indexOf(' ') + 1) : "";
                Object[] arguments = new Object[kinds.length()];
                for (int i = 0; i < arguments.length; i++) {
                    arguments[i] = argument(kinds.charAt(i), model.count(0));
                }
                isSame = compareCall(desk, model, call.split(" ")[0], arguments, told);
                calls++;
            }
        }
        if (!isSame) {
            System.out.println("run " + run + ":\n  " + String.join("\n  ", told));
        }
        for (int slot = 0; slot < 6 && isSame; slot++) {
            for (int row = 0; row < model.count(0); row++) {
                Check.due("run " + run + " at its end, row(" + slot + ", " + row + ")", desk.row(slot, row), model.row(slot, row));
            }
        }
    }

    private static boolean compareCall(BitDesk desk, SlowDesk model, String name, Object[] arguments, List<String> told) throws Exception {
        String got = outcome(ON_DESK.get(name), desk, arguments);
        String want = outcome(ON_MODEL.get(name), model, arguments);
        String call = name + java.util.Arrays.toString(arguments);
        told.add(call + " -> " + got);
        Check.due(call, got, want);
        return got.equals(want);
    }

    private static String outcome(Method method, Object on, Object[] arguments) throws Exception {
        try {
            return String.valueOf(method.invoke(on, arguments));
        } catch (InvocationTargetException e) {
            return "throws " + e.getCause().getClass().getName();
        }
    }

    private static Object argument(char kind, int size) {
        boolean isOdd = below(40) == 0;
        switch (kind) {
            case 's':
                return isOdd ? odd() : Integer.valueOf(below(3) == 0 ? below(6) : below(2));
            case 'n':
                return isOdd ? below(2) == 0 ? odd() : Integer.valueOf(size) : Integer.valueOf(below(size));
            case 'c':
                return isOdd ? odd() : Integer.valueOf(below(size + 2));
            case 'i':
                return isOdd ? odd() : Integer.valueOf(below(size + 1));
            case 'w':
                return isOdd ? odd() : Integer.valueOf(below(4));
            case 'b':
                return isOdd ? odd() : Integer.valueOf(below(10));
            case 'p':
                return isOdd ? odd() : Integer.valueOf(below(2));
            case 'e':
                return isOdd ? odd() : Integer.valueOf(below(3) == 0 ? below(1000002) : below(20));
            case 't':
                return below(2) == 0;
            default:
                return below(3) == 0 ? Long.valueOf(1L << below(64)) : Long.valueOf(next() ^ next() << 32);
        }
    }

    private static Integer odd() {
        int[] numbers = {-1, -2, 6, 32, 33, Integer.MAX_VALUE, Integer.MIN_VALUE, 1000000, 1000001, 9};
        return numbers[below(numbers.length)];
    }

    private static String text(int least, int most) {
        int size = least + below(most - least + 1);
        StringBuilder text = new StringBuilder("size " + size);
        int statements = below(14);
        for (int i = 0; i < statements && text.length() < 500; i++) {
            text.append(spaces()).append(";").append(spaces());
            text.append(statement(size));
        }
        return text.append(spaces()).toString();
    }

    private static String statement(int size) {
        String slot = spaces() + below(6) + " ";
        switch (below(8)) {
            case 0:
                return "fill" + slot + WORDS[6 + below(4)];
            case 1:
                return "keep" + slot;
            case 2:
                return "block" + spaces() + (1 + below(8));
            case 3:
                StringBuilder bits = new StringBuilder();
                for (int c = 0; c < size; c++) {
                    bits.append(below(2));
                }
                return "row" + slot + spaces() + below(size) + " " + bits;
            default:
                return "edge" + slot + below(size) + " " + spaces() + (below(5) == 0 ? "0" : "") + below(size);
        }
    }

    private static String spaces() {
        return below(3) == 0 ? " ".repeat(below(3)) : "";
    }

    /** A text with a few of its signs changed, left out or put in. */
    private static String brokenText(int least, int most) {
        StringBuilder text = new StringBuilder(text(least, most));
        int changes = 1 + below(2);
        for (int i = 0; i < changes && text.length() > 0; i++) {
            int at = below(text.length());
            String more = new String[] {";", " ", "" + below(40), "-", WORDS[below(WORDS.length)], "\u00e9", "A", ";keep 0"}[below(8)];
            switch (below(4)) {
                case 0:
                    text.deleteCharAt(at);
                    break;
                case 1:
                    text.setLength(at);
                    break;
                default:
                    text.insert(at, more);
            }
        }
        return text.toString();
    }

    private static Long bytes(String text, int from) {
        long bytes = 0;
        for (int at = from; at < Math.min(from + 8, text.length()); at++) {
            bytes = bytes << 8 | text.charAt(at) & 255;
        }
        return bytes;
    }

    private static int below(int limit) {
        return (int) Long.remainderUnsigned(next() >>> 16, limit);
    }

    private static long next() {
        seed = seed * 6364136223846793005L + 1442695040888963407L;
        return seed ^ seed >>> 29;
    }
}
