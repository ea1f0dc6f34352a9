import java.lang.reflect.Constructor;
import java.lang.reflect.Field;
import java.lang.reflect.Method;
import java.lang.reflect.Modifier;
import java.util.Set;
import java.util.TreeSet;

/** The class shows the document's face and nothing else (LANGUAGE.md, rules 1 and 5). */
public final class FaceTest {
    public static void main(String[] args) {
        Check check = new Check();
        check.compare("modifiers", "public final", Modifier.toString(EdgeRaster.class.getModifiers()));
        check.due("NONE", -1, () -> EdgeRaster.NONE);
        check.compare("face", due().toString(), shown().toString());
        check.compare("private methods named like public ones", "[]", clashes().toString());
        check.compare("static fields that are not final", "[]", looseStatics().toString());
        check.compare("classes inside that are shown or not static", "[]", looseClasses().toString());
        check.compare("class above it", "class java.lang.Object", EdgeRaster.class.getSuperclass().toString());
        check.due("interfaces", 0, () -> EdgeRaster.class.getInterfaces().length);
        check.end();
    }

    private static Set<String> due() {
        return new TreeSet<>(Set.of(
                "public static final int EdgeRaster.NONE",
                "public EdgeRaster()",
                "public void EdgeRaster.corner(int,int,int,int,int) throws java.lang.IllegalArgumentException",
                "public void EdgeRaster.value(int,int,int) throws java.lang.IllegalArgumentException",
                "public void EdgeRaster.window(int,int,int,int) throws java.lang.IllegalArgumentException",
                "public long EdgeRaster.area()",
                "public boolean EdgeRaster.covers(int,int) throws java.lang.IllegalArgumentException",
                "public int EdgeRaster.many()",
                "public void EdgeRaster.walk()",
                "public int EdgeRaster.next() throws java.lang.IllegalStateException",
                "public long EdgeRaster.weight(int) throws java.lang.IllegalArgumentException,"
                        + "java.lang.IllegalStateException",
                "public int EdgeRaster.depth() throws java.lang.IllegalStateException",
                "public int EdgeRaster.at(int) throws java.lang.IllegalArgumentException,"
                        + "java.lang.IllegalStateException"));
    }

    private static Set<String> shown() {
        Set<String> shown = new TreeSet<>();
        for (Field field : EdgeRaster.class.getDeclaredFields()) {
            if (!Modifier.isPrivate(field.getModifiers())) {
                shown.add(field.toString());
            }
        }
        for (Constructor<?> constructor : EdgeRaster.class.getDeclaredConstructors()) {
            shown.add(constructor.toString());
        }
        for (Method method : EdgeRaster.class.getDeclaredMethods()) {
            if (!Modifier.isPrivate(method.getModifiers())) {
                shown.add(method.toString());
            }
        }
        return shown;
    }

    private static Set<String> clashes() {
        Set<String> names = new TreeSet<>();
        for (Method method : EdgeRaster.class.getMethods()) {
            names.add(method.getName());
        }
        Set<String> clashes = new TreeSet<>();
        addClashes(EdgeRaster.class, names, clashes);
        for (Class<?> inside : EdgeRaster.class.getDeclaredClasses()) {
            addClashes(inside, names, clashes);
        }
        return clashes;
    }

    private static void addClashes(Class<?> owner, Set<String> names, Set<String> clashes) {
        for (Method method : owner.getDeclaredMethods()) {
            if (Modifier.isPrivate(method.getModifiers()) && names.contains(method.getName())) {
                clashes.add(method.getName());
            }
        }
    }

    private static Set<String> looseStatics() {
        Set<String> loose = new TreeSet<>();
        addLooseStatics(EdgeRaster.class, loose);
        for (Class<?> inside : EdgeRaster.class.getDeclaredClasses()) {
            addLooseStatics(inside, loose);
        }
        return loose;
    }

    private static void addLooseStatics(Class<?> owner, Set<String> loose) {
        for (Field field : owner.getDeclaredFields()) {
            if (Modifier.isStatic(field.getModifiers()) && !Modifier.isFinal(field.getModifiers())) {
                loose.add(field.getName());
            }
        }
    }

    private static Set<String> looseClasses() {
        Set<String> loose = new TreeSet<>();
        for (Class<?> inside : EdgeRaster.class.getDeclaredClasses()) {
            int modifiers = inside.getModifiers();
            if (Modifier.isPublic(modifiers) || Modifier.isProtected(modifiers) || !Modifier.isStatic(modifiers)) {
                loose.add(inside.getName());
            }
        }
        return loose;
    }
}
