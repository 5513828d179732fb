/** What the tests share: they count wrong answers, print them, and end with exit code 1 if there was one. */
final class Check {
    static final String INDEX = "java.lang.IndexOutOfBoundsException";
    static final String ARGUMENT = "java.lang.IllegalArgumentException";

    interface Call {
        Object answer();
    }

    private static int wrong = 0;
    private static int asked = 0;

    private Check() {
    }

    static void due(String what, Object got, Object want) {
        asked++;
        if (!want.equals(got)) {
            wrong++;
            System.out.println(what + " answered " + got + ", due is " + want);
        }
    }

    static int asked() {
        return asked;
    }

    static int wrong() {
        return wrong;
    }

    static void dueThrow(String what, String exception, Call call) {
        due(what, outcome(call), "throws " + exception);
    }

    static String outcome(Call call) {
        try {
            return String.valueOf(call.answer());
        } catch (RuntimeException e) {
            return "throws " + e.getClass().getName();
        }
    }

    static void end(String test) {
        System.out.println(test + ": " + asked + " answers, " + wrong + " of them wrong");
        if (wrong > 0 || asked == 0) {
            System.exit(1);
        }
    }

    /** Appends the text, which may hold no character 0, eight bytes a call. */
    static void append(BitDesk desk, String text) {
        for (int from = 0; from < text.length(); from += 8) {
            long bytes = 0;
            for (int at = from; at < Math.min(from + 8, text.length()); at++) {
                bytes = bytes << 8 | text.charAt(at) & 255;
            }
            desk.append(bytes);
        }
    }

    static int load(BitDesk desk, String text) {
        append(desk, text);
        return desk.load();
    }

    static BitDesk desk(String text) {
        BitDesk desk = new BitDesk();
        if (load(desk, text) < 0) {
            throw new IllegalStateException("not a description: " + text);
        }
        return desk;
    }

    /** Loads the text and tells what load() answers, and then kind and statement of an error. */
    static String loaded(BitDesk desk, String text) {
        int answer = load(desk, text);
        return answer + (desk.loadError() == 0 ? "" : " " + desk.loadError() + " " + desk.loadStatement());
    }

    static String loaded(String text) {
        return loaded(new BitDesk(), text);
    }

    static String rows(BitDesk desk, int slot) {
        StringBuilder text = new StringBuilder();
        for (int row = 0; row < desk.count(0); row++) {
            text.append(row == 0 ? "" : " ").append(desk.row(slot, row));
        }
        return text.toString();
    }

    static String kept(BitDesk desk, int slot) {
        return desk.kept(slot, 0) + " " + desk.kept(slot, 1) + " " + desk.kept(slot, 2);
    }

    static String work(BitDesk desk) {
        return desk.work(0) + " " + desk.work(1);
    }

    static String output(BitDesk desk) {
        StringBuilder text = new StringBuilder();
        for (int index = 0; desk.outputByte(index) != -1 && index < 40; index++) {
            text.append((char) desk.outputByte(index));
        }
        return text.toString();
    }

    /** All that can be told without a change; with 32 rows it takes some 270 of the 512 calls. */
    static String told(BitDesk desk) {
        StringBuilder text = new StringBuilder();
        for (int slot = 0; slot < 6; slot++) {
            text.append(rows(desk, slot)).append(" pairs ").append(desk.pairs(slot)).append(" kept ").append(kept(desk, slot)).append('\n');
        }
        for (int what = 0; what < 4; what++) {
            text.append(desk.count(what)).append(' ');
        }
        text.append("work ").append(work(desk)).append(" output ").append(output(desk));
        text.append(" buffer ").append(desk.append(0));
        return text.append(" load ").append(desk.loadError()).append(' ').append(desk.loadStatement()).toString();
    }
}
