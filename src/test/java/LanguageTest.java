import java.io.DataInputStream;
import java.io.IOException;
import java.lang.management.ManagementFactory;
import java.lang.reflect.Field;
import java.lang.reflect.Modifier;
import java.nio.file.Files;
import java.nio.file.Path;
import java.util.ArrayList;
import java.util.List;
import java.util.Set;
import java.util.TreeSet;

/** What can be seen of the rules of LANGUAGE.md: the library used, the fields, the length of methods, the room. */
final class LanguageTest {
    private static final Set<String> LIBRARY = Set.of(
        "java/lang/Object.<init>", "java/lang/Integer.bitCount", "java/lang/Math.min", "java/lang/System.arraycopy",
        "java/lang/String.length", "java/lang/String.charAt",
        "java/lang/IndexOutOfBoundsException.<init>", "java/lang/IllegalArgumentException.<init>");
    private static final long MOST_BYTES_OF_A_RUN = 60000;

    public static void main(String[] args) throws Exception {
        Set<String> used = new TreeSet<>();
        for (Path path : classFiles()) {
            addUsed(path, used);
        }
        Check.due("the library that is used", used.isEmpty(), false);
        for (String member : used) {
            Check.due(member + " is in the library", LIBRARY.contains(member), true);
        }
        checkFields(BitDesk.class);
        for (Class<?> inside : BitDesk.class.getDeclaredClasses()) {
            checkFields(inside);
            Check.due(inside + " is static", Modifier.isStatic(inside.getModifiers()), true);
            Check.due(inside + " is public", Modifier.isPublic(inside.getModifiers()), false);
        }
        Check.due("classes", BitDesk.class.getDeclaredClasses().length < 12, true);
        checkLengths();
        checkRoom();
        Check.end("LanguageTest");
    }

    private static List<Path> classFiles() throws Exception {
        Path place = Path.of(BitDesk.class.getProtectionDomain().getCodeSource().getLocation().toURI());
        List<Path> files = new ArrayList<>();
        try (var all = Files.list(place)) {
            all.filter(path -> path.getFileName().toString().startsWith("BitDesk")).forEach(files::add);
        }
        return files;
    }

    /** Adds the methods and fields of other classes that a class file's constants name. */
    private static void addUsed(Path path, Set<String> used) throws IOException {
        try (DataInputStream in = new DataInputStream(Files.newInputStream(path))) {
            in.readLong();
            int count = in.readUnsignedShort();
            String[] texts = new String[count];
            int[] first = new int[count];
            int[] second = new int[count];
            int[] tags = new int[count];
            for (int i = 1; i < count; i++) {
                tags[i] = in.readUnsignedByte();
                switch (tags[i]) {
                    case 1 -> texts[i] = in.readUTF();
                    case 3, 4 -> in.readInt();
                    case 5, 6 -> {
                        in.readLong();
                        i++;
                    }
                    case 7, 8, 16, 19, 20 -> first[i] = in.readUnsignedShort();
                    case 9, 10, 11, 12 -> {
                        first[i] = in.readUnsignedShort();
                        second[i] = in.readUnsignedShort();
                    }
                    default -> used.add("constant of kind " + tags[i]);
                }
            }
            for (int i = 1; i < count; i++) {
                if (tags[i] >= 9 && tags[i] <= 11) {
                    String owner = texts[first[first[i]]];
                    if (!owner.startsWith("BitDesk")) {
                        used.add(owner + "." + texts[first[second[i]]]);
                    }
                }
            }
        }
    }

    private static void checkFields(Class<?> where) {
        int number = 0;
        for (Field field : where.getDeclaredFields()) {
            if (Modifier.isStatic(field.getModifiers())) {
                Check.due(field + " is final", Modifier.isFinal(field.getModifiers()), true);
                Check.due(field + " is a number", field.getType().isPrimitive(), true);
            } else {
                number++;
                Check.due(field + " is private", Modifier.isPrivate(field.getModifiers()), true);
            }
        }
        Check.due("fields of " + where, number <= 20, true);
    }

    /** A method begins at a line that ends with an opening brace behind its parameters. */
    private static void checkLengths() throws IOException {
        List<String> lines = Files.readAllLines(Path.of("src/main/java/BitDesk.java"));
        int begin = -1;
        for (int i = 0; i < lines.size(); i++) {
            String line = lines.get(i);
            Check.due("line " + (i + 1) + " is plain", line.chars().allMatch(c -> c >= 32 && c < 127), true);
            boolean isHead = line.matches(" {4,8}(public |private |static )*[\\w\\[\\]]*( \\w+)?\\(.*\\{") && !line.matches(" *(for|if|while|switch|\\}).*");
            if (isHead) {
                begin = i;
            }
            if (begin >= 0 && line.equals(lines.get(begin).replaceAll("\\S.*", "") + "}")) {
                Check.due("lines of the method at " + (begin + 1), i - begin < 60, true);
                begin = -1;
            }
        }
    }

    /** What a run of 512 of the dearest calls takes of memory, the object itself with it. */
    private static void checkRoom() {
        dearestRun();
        var threads = (com.sun.management.ThreadMXBean) ManagementFactory.getThreadMXBean();
        if (!threads.isThreadAllocatedMemorySupported() || !threads.isThreadAllocatedMemoryEnabled()) {
            return;
        }
        long id = Thread.currentThread().getId();
        long before = threads.getThreadAllocatedBytes(id);
        dearestRun();
        long taken = threads.getThreadAllocatedBytes(id) - before;
        Check.due("a run's bytes, " + taken + ", are few", taken < MOST_BYTES_OF_A_RUN, true);
    }

    private static void dearestRun() {
        BitDesk desk = new BitDesk();
        desk.append(0x73697a6520333200L);
        desk.load();
        int[] sums = new int[1];
        for (int i = 0; i < 24; i++) {
            desk.append(0x73697a6520333200L);
            sums[0] += desk.load() + desk.setRow(0, i, -1L >>> i) + desk.put(0, i, 31 - i, i % 2 == 0);
            sums[0] += desk.power(0, 1000000 - i, 1, i % 2 == 0) + desk.product(0, 1, 2, true) + desk.invert(0, 2);
            sums[0] += desk.reduce(0, 3) + desk.close(0, 4) + desk.exchange(0, 0, i) + desk.transpose(0, 5);
            sums[0] += desk.bestEdge(0) + desk.weakest(0) + desk.stepAt(0, 0, i, 1) + desk.order(0, i) + desk.girth(0);
            sums[0] += desk.writeRow(0, 0) + desk.saveSnapshot(0) + desk.undo() + desk.restoreSnapshot(0) + desk.classes(0);
        }
        Check.due("the run was done", sums[0] != 0, true);
    }
}
