import java.lang.reflect.InvocationTargetException;
import java.lang.reflect.Method;
import java.lang.reflect.Modifier;
import java.util.ArrayList;
import java.util.List;
import java.util.regex.Matcher;
import java.util.regex.Pattern;

/**
 * Each parameter of each method at its bounds, as the document's own lines tell them: the least and the greatest
 * value are taken, what is less or greater is refused by the exception that is told, and a refused call changes nothing.
 */
final class RangeTest {
    private static final int[] SIZES = {1, 4, 8, 32};
    private static final Pattern FACE = Pattern.compile("public \\w+ (\\w+)\\((.*?)\\).*;");
    private static final Pattern BULLET = Pattern.compile("- `(\\w+)`: (.*)");
    private static final Pattern THROWS = Pattern.compile("Throws `(\\w+)` if (.*)");

    private static final class Parameter {
        String name;
        String bullet = "";
        String exception = "";
        Class<?> type;
        boolean hasRange;

        long most(int size) {
            Matcher range = Pattern.compile("(\\d+) to (\\d+|N)").matcher(bullet);
            if (range.matches()) {
                return range.group(2).equals("N") ? size : Long.parseLong(range.group(2));
            }
            if (bullet.matches("a (row|column|node)")) {
                return size - 1;
            }
            int most = 0;
            while (bullet.contains(", " + (most + 1) + " ") || bullet.equals("0 or 1") && most == 0) {
                most++;
            }
            return most;
        }

        long least() {
            return bullet.startsWith("1 to ") ? 1 : 0;
        }
    }

    public static void main(String[] args) throws Exception {
        int methods = 0;
        for (String section : Document.sections()) {
            String head = Document.lines(section).get(0);
            if (section.startsWith("Promise ") && !head.contains("`BitDesk()`")) {
                testMethod(section, head.substring(head.indexOf(' ') + 1, head.indexOf('(')));
                methods++;
            }
        }
        long declared = java.util.Arrays.stream(BitDesk.class.getDeclaredMethods()).filter(m -> Modifier.isPublic(m.getModifiers())).count();
        Check.due("methods that the promises name", (long) methods, declared);
        Check.end("RangeTest");
    }

    private static void testMethod(String section, String name) throws Exception {
        Method method = null;
        for (Method one : BitDesk.class.getMethods()) {
            method = one.getName().equals(name) ? one : method;
        }
        List<String> exceptions = new ArrayList<>();
        List<Parameter> parameters = parameters(section, name, method, exceptions);
        for (int size : SIZES) {
            for (int i = 0; i < parameters.size(); i++) {
                if (parameters.get(i).hasRange) {
                    atBounds(section, method, parameters, i, size);
                    beyondBounds(section, method, parameters, i, size);
                } else {
                    neverRefused(section, method, parameters, i, size);
                }
            }
            severalBeyond(section, method, parameters, exceptions, size);
        }
    }

    private static List<Parameter> parameters(String section, String name, Method method, List<String> exceptions) {
        List<Parameter> parameters = new ArrayList<>();
        for (String line : Document.lines("The public face")) {
            Matcher face = FACE.matcher(line.trim());
            if (face.matches() && face.group(1).equals(name) && !face.group(2).isEmpty()) {
                for (String one : face.group(2).split(", ")) {
                    Parameter parameter = new Parameter();
                    parameter.name = one.split(" ")[1];
                    parameter.type = method.getParameterTypes()[parameters.size()];
                    parameters.add(parameter);
                }
            }
        }
        for (String line : Document.lines(section)) {
            Matcher bullet = BULLET.matcher(line);
            Matcher throwing = THROWS.matcher(line);
            for (Parameter parameter : parameters) {
                if (bullet.matches() && bullet.group(1).equals(parameter.name)) {
                    parameter.bullet = bullet.group(2);
                } else if (throwing.matches() && concerns(throwing.group(2), parameter)) {
                    parameter.exception = "java.lang." + throwing.group(1);
                }
            }
            if (throwing.matches()) {
                exceptions.add("java.lang." + throwing.group(1));
            }
        }
        for (Parameter parameter : parameters) {
            parameter.hasRange = !parameter.exception.isEmpty();
            boolean isFree = parameter.type != int.class || parameter.bullet.matches("the (index|place)\\b.*|0 for a, and so on");
            Check.due(section + ": " + parameter.name + ", '" + parameter.bullet + "', has a range", parameter.hasRange, !isFree);
        }
        return parameters;
    }

    /** "no such slot, row or column" concerns what bears these names, and nodes, slots and places by their bullets. */
    private static boolean concerns(String refusal, Parameter parameter) {
        if (refusal.endsWith(" is out of range")) {
            return refusal.startsWith(parameter.name + " ");
        }
        String kind = parameter.bullet.equals("0 to 5") ? "slot" : parameter.bullet.startsWith("a ") ? parameter.bullet.substring(2) : "none";
        return refusal.matches("there is no such .*\\b" + kind + "\\b.*") && parameter.type == int.class;
    }

    /** A desk of that size about which something can be told everywhere: actions, an error, output, a snapshot. */
    private static BitDesk desk(int size) {
        BitDesk desk = new BitDesk();
        Check.load(desk, "size " + size + ";fill 0 ring;fill 1 ones;fill 2 unit;edge 3 0 0;keep 0;keep 3;block 3");
        desk.saveSnapshot(1);
        desk.product(0, 1, 4, true);
        desk.put(0, 0, size - 1, true);
        desk.writeRow(1, 0);
        Check.load(desk, "size 5;keep 6");
        desk.append(115);
        return desk;
    }

    private static Object[] plainArguments(List<Parameter> parameters) {
        Object[] arguments = new Object[parameters.size()];
        for (int i = 0; i < arguments.length; i++) {
            arguments[i] = valueOf(parameters.get(i), parameters.get(i).least());
        }
        return arguments;
    }

    private static Object valueOf(Parameter parameter, long value) {
        return parameter.type == int.class ? (Object) (int) value : parameter.type == long.class ? (Object) value : (Object) (value != 0);
    }

    private static String called(Method method, BitDesk desk, Object[] arguments) {
        try {
            return String.valueOf(method.invoke(desk, arguments));
        } catch (InvocationTargetException e) {
            return "throws " + e.getCause().getClass().getName();
        } catch (IllegalAccessException e) {
            return "is not there";
        }
    }

    private static void atBounds(String section, Method method, List<Parameter> parameters, int which, int size) {
        Parameter parameter = parameters.get(which);
        for (long value : new long[] {parameter.least(), parameter.most(size)}) {
            Object[] arguments = plainArguments(parameters);
            arguments[which] = valueOf(parameter, value);
            String answer = called(method, desk(size), arguments);
            Check.due(section + ", N " + size + ": " + parameter.name + " = " + value + " answers", answer.startsWith("throws"), false);
        }
    }

    private static void beyondBounds(String section, Method method, List<Parameter> parameters, int which, int size) {
        Parameter parameter = parameters.get(which);
        for (long value : beyond(parameter, size)) {
            Object[] arguments = plainArguments(parameters);
            arguments[which] = valueOf(parameter, value);
            refused(section, method, arguments, parameter.name + " = " + value, parameter.exception, size);
        }
    }

    private static long[] beyond(Parameter parameter, int size) {
        return new long[] {parameter.least() - 1, parameter.most(size) + 1, Integer.MIN_VALUE, Integer.MAX_VALUE};
    }

    private static void refused(String section, Method method, Object[] arguments, String what, String exception, int size) {
        BitDesk desk = desk(size);
        String answer = called(method, desk, arguments);
        Check.due(section + ", N " + size + ": " + what, answer, "throws " + exception);
        BitDesk other = desk(size);
        Check.due(section + ", N " + size + ": " + what + " changes nothing", Check.told(desk), Check.told(other));
        Check.due("nor what is taken back", desk.undo() + " " + desk.row(0, 0), other.undo() + " " + other.row(0, 0));
    }

    private static void neverRefused(String section, Method method, List<Parameter> parameters, int which, int size) {
        for (long value : new long[] {0, -1, size, Integer.MIN_VALUE, Integer.MAX_VALUE, Long.MIN_VALUE, Long.MAX_VALUE}) {
            Object[] arguments = plainArguments(parameters);
            arguments[which] = valueOf(parameters.get(which), value);
            String answer = called(method, desk(size), arguments);
            Check.due(section + ", N " + size + ": " + parameters.get(which).name + " = " + value + " answers", answer.startsWith("throws"), false);
        }
    }

    /** Of two parameters out of their ranges, the exception that the document names first is thrown. */
    private static void severalBeyond(String section, Method method, List<Parameter> parameters, List<String> exceptions, int size) {
        for (int one = 0; one < parameters.size(); one++) {
            for (int other = one + 1; other < parameters.size(); other++) {
                if (parameters.get(one).hasRange && parameters.get(other).hasRange) {
                    int first = Math.min(exceptions.indexOf(parameters.get(one).exception), exceptions.indexOf(parameters.get(other).exception));
                    for (int way = 0; way < 4; way++) {
                        Object[] arguments = plainArguments(parameters);
                        arguments[one] = valueOf(parameters.get(one), beyond(parameters.get(one), size)[way & 1]);
                        arguments[other] = valueOf(parameters.get(other), beyond(parameters.get(other), size)[way >> 1]);
                        String what = parameters.get(one).name + " and " + parameters.get(other).name + " out of range";
                        refused(section, method, arguments, what, exceptions.get(first), size);
                    }
                }
            }
        }
    }
}
