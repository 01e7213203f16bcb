import java.lang.reflect.Constructor;
import java.lang.reflect.Field;
import java.lang.reflect.Method;
import java.lang.reflect.Modifier;
import java.util.TreeSet;

/** The public face: what the document names, and nothing else that can be seen from outside. */
public final class FaceTest {
    public static void main(String[] args) {
        Check check = new Check();
        TreeSet<String> due = new TreeSet<>();
        due.add("public static final int BeamDrawer.NONE");
        due.add("public BeamDrawer()");
        String noSuch = "java.util.NoSuchElementException";
        String illegal = "java.lang.IllegalArgumentException";
        due.add("public void BeamDrawer.write(int,int) throws " + noSuch + "," + illegal);
        due.add("public int BeamDrawer.clocks(int) throws " + illegal);
        due.add("public int BeamDrawer.sync()");
        due.add("public int BeamDrawer.pixel(int) throws " + noSuch);
        due.add("public boolean BeamDrawer.met(int,int) throws " + noSuch);
        due.add("public int BeamDrawer.place(int) throws " + noSuch);
        due.add("public boolean BeamDrawer.there(int,int) throws " + noSuch);
        due.add("public int BeamDrawer.set(int,int) throws " + noSuch + "," + illegal);
        due.add("public int BeamDrawer.count(int) throws " + noSuch);
        TreeSet<String> got = seen();
        if (!got.equals(due)) {
            System.out.println("the face is " + got + ", due is " + due);
        }
        check.due("the face", got.equals(due), true);
        int modifiers = BeamDrawer.class.getModifiers();
        check.due("public and final", Modifier.isPublic(modifiers) && Modifier.isFinal(modifiers), true);
        check.due("private methods with a public one's name", sharedNames().size(), 0);
        for (Class<?> inside : BeamDrawer.class.getDeclaredClasses()) {
            int of = inside.getModifiers();
            check.due(inside + " is private or package-visible, and static",
                    Modifier.isStatic(of) && !Modifier.isPublic(of) && !Modifier.isProtected(of), true);
        }
        check.end();
    }

    private static TreeSet<String> seen() {
        TreeSet<String> seen = new TreeSet<>();
        for (Field field : BeamDrawer.class.getDeclaredFields()) {
            if (!Modifier.isPrivate(field.getModifiers())) {
                seen.add(field.toString());
            }
        }
        for (Constructor<?> constructor : BeamDrawer.class.getDeclaredConstructors()) {
            if (!Modifier.isPrivate(constructor.getModifiers())) {
                seen.add(constructor.toString());
            }
        }
        for (Method method : BeamDrawer.class.getDeclaredMethods()) {
            if (!Modifier.isPrivate(method.getModifiers())) {
                seen.add(method.toString());
            }
        }
        return seen;
    }

    private static TreeSet<String> sharedNames() {
        TreeSet<String> open = new TreeSet<>();
        TreeSet<String> hidden = new TreeSet<>();
        for (Method method : BeamDrawer.class.getDeclaredMethods()) {
            (Modifier.isPublic(method.getModifiers()) ? open : hidden).add(method.getName());
        }
        hidden.retainAll(open);
        return hidden;
    }
}
