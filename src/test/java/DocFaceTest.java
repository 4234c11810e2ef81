import java.io.IOException;
import java.lang.reflect.Constructor;
import java.lang.reflect.Executable;
import java.lang.reflect.Field;
import java.lang.reflect.Method;
import java.lang.reflect.Modifier;
import java.nio.file.Files;
import java.nio.file.Path;
import java.util.ArrayList;
import java.util.Arrays;
import java.util.List;
import java.util.TreeSet;
import java.util.stream.Collectors;

/** The public face as ../shared/DOC.md prints it, read from there, and no other public member. */
public final class DocFaceTest {
    public static void main(String[] args) throws IOException, IllegalAccessException {
        List<String> printed = printedFace();
        TreeSet<String> due = new TreeSet<>();
        for (String line : printed.subList(1, printed.size() - 1)) {
            due.add(withoutParameterNames(line.trim()));
        }
        holds("the document prints 2 constants, a constructor and 16 methods: " + due, due.size() == 19);
        Class<?> face = CanonNames.class;
        holds("its first line", printed.get(0).equals(Modifier.toString(face.getModifiers()) + " class " + face.getName() + " {"));
        holds("no package", face.getPackageName().isEmpty());
        TreeSet<String> is = openMembers(face);
        for (String member : due) {
            holds("the class has " + member, is.contains(member));
        }
        for (String member : is) {
            holds("the document has " + member, due.contains(member));
        }
        holds("a class above it would bring members", face.getSuperclass() == Object.class);
        holds("an interface would bring members", face.getInterfaces().length == 0);
        for (Class<?> inside : face.getDeclaredClasses()) {
            boolean open = Modifier.isPublic(inside.getModifiers()) || Modifier.isProtected(inside.getModifiers());
            holds(inside + " is not open to others", !open);
        }
        Check.end("DocFaceTest");
    }

    private static void holds(String what, boolean holds) {
        Check.due(what, holds ? 1 : 0, 1);
    }

    private static List<String> printedFace() throws IOException {
        List<String> face = new ArrayList<>();
        boolean below = false;
        boolean inside = false;
        for (String line : Files.readAllLines(Path.of("../shared/DOC.md"))) {
            if (line.startsWith("## ")) {
                below = line.equals("## The public face");
            } else if (line.startsWith("```")) {
                inside = below && line.equals("```java");
            } else if (inside) {
                face.add(line);
            }
        }
        return face;
    }

    private static String withoutParameterNames(String line) {
        return line.replaceAll("(\\w+) \\w+(?=[,)])", "$1");
    }

    /** All members that are not private, in the words in which the document prints them. */
    private static TreeSet<String> openMembers(Class<?> face) throws IllegalAccessException {
        TreeSet<String> members = new TreeSet<>();
        for (Field field : face.getDeclaredFields()) {
            if (!Modifier.isPrivate(field.getModifiers())) {
                String value = Modifier.isStatic(field.getModifiers()) ? " = " + field.get(null) : "";
                members.add(start(field.getModifiers()) + field.getType().getSimpleName() + " " + field.getName() + value + ";");
            }
        }
        for (Constructor<?> constructor : face.getDeclaredConstructors()) {
            if (!Modifier.isPrivate(constructor.getModifiers())) {
                members.add(start(constructor.getModifiers()) + constructor.getName() + end(constructor));
            }
        }
        for (Method method : face.getDeclaredMethods()) {
            if (!Modifier.isPrivate(method.getModifiers())) {
                String type = method.getReturnType().getSimpleName();
                members.add(start(method.getModifiers()) + type + " " + method.getName() + end(method));
            }
        }
        return members;
    }

    private static String start(int modifiers) {
        return modifiers == 0 ? "" : Modifier.toString(modifiers) + " ";
    }

    private static String end(Executable member) {
        String thrown = member.getExceptionTypes().length == 0 ? "" : " throws " + names(member.getExceptionTypes());
        return "(" + names(member.getParameterTypes()) + ")" + thrown + ";";
    }

    private static String names(Class<?>[] types) {
        return Arrays.stream(types).map(Class::getSimpleName).collect(Collectors.joining(", "));
    }
}
