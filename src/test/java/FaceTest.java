import java.lang.reflect.Field;
import java.lang.reflect.Member;
import java.lang.reflect.Method;
import java.lang.reflect.Modifier;
import java.nio.file.Files;
import java.util.ArrayList;
import java.util.Arrays;
import java.util.HashSet;
import java.util.List;
import java.util.Set;
import java.util.TreeSet;

/** The face of the class is the document's, member by member. */
final class FaceTest {
    public static void main(String[] args) throws Exception {
        Set<String> want = faceOfDocument();
        Set<String> got = new TreeSet<>();
        List<String> strays = new ArrayList<>();
        Set<String> publicNames = new HashSet<>();
        for (Method method : BitDesk.class.getDeclaredMethods()) {
            if (Modifier.isPublic(method.getModifiers())) {
                got.add(signature(method));
                publicNames.add(method.getName());
            } else if (!Modifier.isPrivate(method.getModifiers())) {
                strays.add(method.toString());
            }
        }
        for (Field field : BitDesk.class.getDeclaredFields()) {
            if (Modifier.isPublic(field.getModifiers())) {
                got.add("public static final " + field.getType() + " " + field.getName() + " = " + field.get(null));
            } else if (!Modifier.isPrivate(field.getModifiers())) {
                strays.add(field.toString());
            }
        }
        got.add("constructors: " + Arrays.toString(BitDesk.class.getDeclaredConstructors()));
        got.add("class: " + Modifier.toString(BitDesk.class.getModifiers()));
        Check.due("strays", strays.toString(), "[]");
        for (String member : want) {
            Check.due(member, got.contains(member), true);
        }
        for (String member : got) {
            Check.due(member + " is in the document", want.contains(member), true);
        }
        checkPrivateNames(BitDesk.class, publicNames);
        Check.end("FaceTest");
    }

    private static void checkPrivateNames(Class<?> where, Set<String> publicNames) {
        for (Method method : where.getDeclaredMethods()) {
            if (!Modifier.isPublic(method.getModifiers())) {
                Check.due(name(method) + " bears a public name", publicNames.contains(method.getName()), false);
            }
        }
        for (Class<?> inside : where.getDeclaredClasses()) {
            checkPrivateNames(inside, publicNames);
        }
    }

    private static String name(Member member) {
        return member.getDeclaringClass().getName() + "." + member.getName();
    }

    private static String signature(Method method) {
        StringBuilder text = new StringBuilder("public " + method.getReturnType() + " " + method.getName() + "(");
        for (int i = 0; i < method.getParameterCount(); i++) {
            text.append(i == 0 ? "" : ", ").append(method.getParameterTypes()[i]);
        }
        text.append(")");
        for (int i = 0; i < method.getExceptionTypes().length; i++) {
            text.append(i == 0 ? " throws " : ", ").append(method.getExceptionTypes()[i].getSimpleName());
        }
        return text.toString();
    }

    /** The lines of the public face, without the parameters' names. */
    private static Set<String> faceOfDocument() throws Exception {
        Set<String> face = new TreeSet<>();
        boolean isFace = false;
        for (String line : Files.readAllLines(Document.path())) {
            isFace = line.startsWith("public final class") || isFace && !line.startsWith("}");
            String text = line.trim().replaceAll(";$", "").replaceAll("L$", "");
            if (isFace && text.contains("(") && !text.equals("public BitDesk()")) {
                face.add(text.replaceAll("(\\(|, )(int|long|boolean) \\w+", "$1$2"));
            } else if (isFace && text.startsWith("public static final")) {
                face.add(text);
            }
        }
        face.add("constructors: [public BitDesk()]");
        face.add("class: public final");
        return face;
    }
}
