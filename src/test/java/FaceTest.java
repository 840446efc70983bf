import java.lang.reflect.Constructor;
import java.lang.reflect.Field;
import java.lang.reflect.Method;
import java.lang.reflect.Modifier;
import java.util.Arrays;
import java.util.TreeSet;

/** The public face: the document's members with what they throw, and no other that is not private. */
public final class FaceTest {
    private static final String[] DUE = {
        "public static final int GlassHall.NONE",
        "public GlassHall()",
        "public int GlassHall.sheet(int,int) throws IllegalArgumentException,IllegalStateException",
        "public int GlassHall.flaw(int,int,int,int,int) throws java.util.NoSuchElementException,"
            + "IllegalArgumentException,IllegalStateException",
        "public int GlassHall.order(int,int,boolean,int) throws IllegalArgumentException,IllegalStateException",
        "public int GlassHall.plan(int) throws java.util.NoSuchElementException,IllegalStateException",
        "public int GlassHall.exact(int,int,int,int) throws java.util.NoSuchElementException,IllegalStateException",
        "public int GlassHall.node(int,int,int) throws java.util.NoSuchElementException,IllegalStateException,"
            + "IndexOutOfBoundsException,IllegalArgumentException",
        "public int GlassHall.nodes(int) throws java.util.NoSuchElementException,IllegalStateException",
        "public int GlassHall.score(int) throws java.util.NoSuchElementException,IllegalStateException",
        "public int GlassHall.broke(int,int) throws java.util.NoSuchElementException,IllegalStateException,"
            + "IndexOutOfBoundsException",
        "public int GlassHall.cancel(int) throws java.util.NoSuchElementException,IllegalStateException",
        "public int GlassHall.use(int) throws java.util.NoSuchElementException,IllegalStateException",
        "public int GlassHall.rack(int,int) throws java.util.NoSuchElementException,IllegalArgumentException",
        "public int GlassHall.fit(int,int)",
        "public int GlassHall.flawed(int,int,int) throws java.util.NoSuchElementException,"
            + "IndexOutOfBoundsException,IllegalArgumentException",
        "public int GlassHall.panes(int,int) throws java.util.NoSuchElementException,IllegalArgumentException",
        "public long GlassHall.area(int)",
        "public int GlassHall.total(int)",
    };

    public static void main(String[] args) {
        Class<?> hall = GlassHall.class;
        TreeSet<String> face = new TreeSet<>();
        for (Field f : hall.getDeclaredFields()) {
            addUnlessPrivate(face, f.getModifiers(), f.toString());
        }
        for (Constructor<?> c : hall.getDeclaredConstructors()) {
            addUnlessPrivate(face, c.getModifiers(), c.toString());
        }
        for (Method m : hall.getDeclaredMethods()) {
            addUnlessPrivate(face, m.getModifiers(), m.toString());
        }
        Check.same("the face", String.join("\n", face), String.join("\n", new TreeSet<>(Arrays.asList(DUE))));
        Check.same("modifiers of the class", Modifier.toString(hall.getModifiers()), "public final");
        for (Class<?> inside : hall.getDeclaredClasses()) {
            Check.same("static " + inside, Modifier.isStatic(inside.getModifiers()) ? 1 : 0, 1);
        }
        noPrivateMethodIsNamedLikeAPublicOne(hall);
        Check.end();
    }

    private static void addUnlessPrivate(TreeSet<String> face, int modifiers, String told) {
        if (!Modifier.isPrivate(modifiers)) {
            face.add(told.replace("java.lang.", ""));
        }
    }

    private static void noPrivateMethodIsNamedLikeAPublicOne(Class<?> hall) {
        TreeSet<String> names = new TreeSet<>();
        for (Method m : hall.getMethods()) {
            names.add(m.getName());
        }
        for (Method m : hall.getDeclaredMethods()) {
            if (Modifier.isPrivate(m.getModifiers()) && names.contains(m.getName())) {
                Check.tell("private method with a public name: " + m);
            }
        }
    }
}
