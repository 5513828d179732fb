/** What the tests share: they count wrong answers, print them, and end with exit code 1 if there was one. */
final class Check {
    static final String INDEX = "java.lang.IndexOutOfBoundsException";
    static final String ARGUMENT = "java.lang.IllegalArgumentException";

    interface Call {
        Object answer();
    }

    private static int wrong = 0;
    private static int asked = 0;

    private Check() {
    }

    static void due(String what, Object got, Object want) {
        asked++;
        if (!want.equals(got)) {
            wrong++;
            System.out.println(what + " answered " + got + ", due is " + want);
        }
    }

    static void dueThrow(String what, String exception, Call call) {
        due(what, outcome(call), "throws " + exception);
    }

    static String outcome(Call call) {
        try {
            return String.valueOf(call.answer());
        } catch (RuntimeException e) {
            return "throws " + e.getClass().getName();
        }
    }

    static void end(String test) {
        System.out.println(test + ": " + asked + " answers, " + wrong + " of them wrong");
        if (wrong > 0 || asked == 0) {
            System.exit(1);
        }
    }

    /** Appends the text, which may hold no character 0, eight bytes a call. */
    static void append(BitDesk desk, String text) {
        for (int from = 0; from < text.length(); from += 8) {
            long bytes = 0;
            for (int at = from; at < Math.min(from + 8, text.length()); at++) {
                bytes = bytes << 8 | text.charAt(at) & 255;
            }
            desk.append(bytes);
        }
    }

    static int load(BitDesk desk, String text) {
        append(desk, text);
        return desk.load();
    }

    static BitDesk desk(String text) {
        BitDesk desk = new BitDesk();
        if (load(desk, text) < 0) {
            throw new IllegalStateException("not a description: " + text);
        }
        return desk;
    }

    static String rows(BitDesk desk, int slot) {
        StringBuilder text = new StringBuilder();
        for (int row = 0; row < desk.count(0); row++) {
            text.append(row == 0 ? "" : " ").append(desk.row(slot, row));
        }
        return text.toString();
    }
}
