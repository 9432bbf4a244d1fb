import java.lang.reflect.Constructor;
import java.lang.reflect.Field;
import java.lang.reflect.Method;
import java.lang.reflect.Modifier;
import java.util.Arrays;
import java.util.NoSuchElementException;
import java.util.Set;
import java.util.TreeSet;

/** The public face of the document, whole and nothing beside it (rule 1 of LANGUAGE.md). */
public final class FaceTest {
    private static final Check C = new Check("FaceTest");

    public static void main(String[] args) {
        Class<?> face = HarvestSteps.class;
        C.holds("the class is public and final",
                Modifier.isPublic(face.getModifiers()) && Modifier.isFinal(face.getModifiers()));
        C.holds("constants", constants(face).equals(new TreeSet<>(Arrays.asList("NONE", "RANGE", "STATE", "FULL"))));
        C.due("NONE", HarvestSteps.NONE, -1);
        C.due("RANGE", HarvestSteps.RANGE, -2);
        C.due("STATE", HarvestSteps.STATE, -3);
        C.due("FULL", HarvestSteps.FULL, -4);
        constructors(face);
        methods(face);
        for (Class<?> inside : face.getDeclaredClasses()) {
            int m = inside.getModifiers();
            C.holds(inside + " is static, and private or package-visible",
                    Modifier.isStatic(m) && !Modifier.isPublic(m) && !Modifier.isProtected(m));
        }
        C.end();
    }

    private static Set<String> constants(Class<?> face) {
        Set<String> names = new TreeSet<>();
        for (Field field : face.getDeclaredFields()) {
            int m = field.getModifiers();
            if (Modifier.isPrivate(m)) {
                C.holds(field + " is no static state", !Modifier.isStatic(m) || Modifier.isFinal(m));
                continue;
            }
            names.add(field.getName());
            C.holds(field + " is a public int constant", Modifier.isPublic(m) && Modifier.isStatic(m)
                    && Modifier.isFinal(m) && field.getType() == int.class);
        }
        return names;
    }

    private static void constructors(Class<?> face) {
        Constructor<?>[] all = face.getDeclaredConstructors();
        C.due("constructors", all.length, 1);
        C.holds("the constructor's parameters",
                Arrays.equals(all[0].getParameterTypes(), new Class<?>[] {int.class, int.class, int.class}));
        C.holds("the constructor is public", Modifier.isPublic(all[0].getModifiers()));
        C.due("exceptions that the constructor declares", all[0].getExceptionTypes().length, 0);
    }

    private static void methods(Class<?> face) {
        Set<String> want = new TreeSet<>(Arrays.asList(
                "record(int,int)", "change(int,int)", "delete(int,int)", "form(int,boolean)",
                "list(int,int,int,int,int,int)", "resume(int,int,int)", "token(int)", "row(int,int,int)",
                "get(int,int)", "counted(int)", "passed()", "about(int,int)"));
        Set<String> got = new TreeSet<>();
        Set<String> publicNames = new TreeSet<>();
        Set<String> privateNames = new TreeSet<>();
        for (Method method : face.getDeclaredMethods()) {
            if (method.isSynthetic()) {
                continue;
            }
            if (Modifier.isPrivate(method.getModifiers())) {
                privateNames.add(method.getName());
                continue;
            }
            publicNames.add(method.getName());
            got.add(signature(method));
            C.holds(method + " is public, of an object, and answers an int", method.getReturnType() == int.class
                    && Modifier.isPublic(method.getModifiers()) && !Modifier.isStatic(method.getModifiers()));
            C.holds(method + " declares that it throws what the document says",
                    Arrays.equals(method.getExceptionTypes(), declared(method.getName())));
        }
        C.holds("methods: " + got, got.equals(want));
        privateNames.retainAll(publicNames);
        C.holds("private methods with a public one's name: " + privateNames, privateNames.isEmpty());
    }

    private static Class<?>[] declared(String name) {
        return name.equals("row") ? new Class<?>[] {NoSuchElementException.class} : new Class<?>[0];
    }

    private static String signature(Method method) {
        StringBuilder text = new StringBuilder(method.getName()).append('(');
        for (Class<?> type : method.getParameterTypes()) {
            if (text.charAt(text.length() - 1) != '(') {
                text.append(',');
            }
            text.append(type.getName());
        }
        return text.append(')').toString();
    }
}
