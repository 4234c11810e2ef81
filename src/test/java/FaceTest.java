import java.lang.reflect.Constructor;
import java.lang.reflect.Field;
import java.lang.reflect.Method;
import java.lang.reflect.Modifier;
import java.util.ArrayList;
import java.util.Arrays;
import java.util.List;
import java.util.TreeSet;

/** The public face of the document, and the rules of the language that reflection can see. */
public final class FaceTest {
    private static final String[] FACE = {
        "public static final int CanonNames.BAD",
        "public static final int CanonNames.FULL",
        "public CanonNames()",
        "public int CanonNames.blank()",
        "public int CanonNames.triple(int,int,int)",
        "public int CanonNames.drop(int,int,int)",
        "public int CanonNames.name(long)",
        "public int CanonNames.named(int)",
        "public int CanonNames.form(int,int)",
        "public byte CanonNames.octet(int) throws java.lang.ArrayIndexOutOfBoundsException",
        "public int CanonNames.hash(int,int)",
        "public int CanonNames.rounds()",
        "public int CanonNames.first(int,int)",
        "public int CanonNames.keep()",
        "public int CanonNames.isomorphic(int)",
        "public int CanonNames.ways(int)",
        "public int CanonNames.equal(int)",
        "public int CanonNames.triples()",
        "public int CanonNames.blanks()",
    };

    public static void main(String[] args) {
        Class<?> face = CanonNames.class;
        due("the class is public and final", Modifier.isPublic(face.getModifiers()) && Modifier.isFinal(face.getModifiers()));
        TreeSet<String> members = new TreeSet<>();
        TreeSet<String> names = new TreeSet<>();
        for (Field f : face.getDeclaredFields()) {
            addOpen(members, f.getModifiers(), f.toString());
        }
        for (Constructor<?> c : face.getDeclaredConstructors()) {
            addOpen(members, c.getModifiers(), c.toString());
        }
        for (Method m : face.getDeclaredMethods()) {
            addOpen(members, m.getModifiers(), m.toString());
            if (Modifier.isPublic(m.getModifiers())) {
                names.add(m.getName());
            }
        }
        TreeSet<String> due = new TreeSet<>(Arrays.asList(FACE));
        due("the face is " + due + ", it has " + members, members.equals(due));
        List<Class<?>> all = new ArrayList<>(Arrays.asList(face.getDeclaredClasses()));
        all.add(face);
        due("at most twelve classes", all.size() <= 12);
        for (Class<?> c : all) {
            lookAt(c, names);
        }
        Check.end("FaceTest");
    }

    private static void addOpen(TreeSet<String> members, int modifiers, String text) {
        if (!Modifier.isPrivate(modifiers)) {
            members.add(text);
        }
    }

    private static void lookAt(Class<?> c, TreeSet<String> names) {
        int fields = 0;
        for (Field f : c.getDeclaredFields()) {
            boolean isStatic = Modifier.isStatic(f.getModifiers());
            due(f + " is final if static", !isStatic || Modifier.isFinal(f.getModifiers()));
            fields += isStatic ? 0 : 1;
        }
        due(c + " has at most twenty fields", fields <= 20);
        for (Method m : c.getDeclaredMethods()) {
            due(m + " takes at most seven", m.getParameterCount() <= 7);
            boolean ofFace = c == CanonNames.class && Modifier.isPublic(m.getModifiers());
            due(m + " has a name of its own", ofFace || !names.contains(m.getName()));
        }
        due(c + " is static inside", c == CanonNames.class || Modifier.isStatic(c.getModifiers()));
    }

    private static void due(String what, boolean holds) {
        Check.due(what, holds ? 1 : 0, 1);
    }
}
