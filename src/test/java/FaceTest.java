import java.lang.reflect.Constructor;
import java.lang.reflect.Field;
import java.lang.reflect.Method;
import java.lang.reflect.Modifier;
import java.util.TreeSet;

/** The public face, no more and no less, and rule 1 of LANGUAGE.md on names. */
public final class FaceTest {
    private static final String[] FACE = {
        "int feed(int,int,int,int,int)", "boolean end(int)", "int text()", "int fault()", "int now(int)",
        "int direct(int,int)", "int truck(int,int)", "int load(int,int) throws NoSuchElementException",
        "int trip(int,int) throws NoSuchElementException",
        "int share(int,int)", "int gap(int,int)", "int way(int,int)", "int busiest()", "int hub(int)",
        "int split(int,int,int)", "int without(int,int)", "int dearest()", "int fuel(int,int)", "int buy(int,int)",
        "int weigh(int,int)", "int undo()"};

    private FaceTest() {
    }

    public static void main(String[] args) {
        Class<?> face = FreightShare.class;
        TreeSet<String> want = new TreeSet<>();
        for (String line : FACE) {
            want.add(line);
        }
        TreeSet<String> got = new TreeSet<>();
        TreeSet<String> publicNames = new TreeSet<>();
        TreeSet<String> privateNames = new TreeSet<>();
        for (Method method : face.getDeclaredMethods()) {
            if (Modifier.isPrivate(method.getModifiers())) {
                privateNames.add(method.getName());
            } else {
                got.add(describe(method));
                publicNames.add(method.getName());
            }
        }
        same("methods", got.toString(), want.toString());
        for (Class<?> inner : face.getDeclaredClasses()) {
            for (Method method : inner.getDeclaredMethods()) {
                privateNames.add(method.getName());
            }
        }
        privateNames.retainAll(publicNames);
        same("names used twice", privateNames.toString(), "[]");
        for (Field field : face.getDeclaredFields()) {
            boolean seen = !Modifier.isPrivate(field.getModifiers());
            same("field " + field.getName(), Boolean.toString(seen), Boolean.toString(field.getName().equals("NONE")));
        }
        int constructors = 0;
        for (Constructor<?> constructor : face.getDeclaredConstructors()) {
            constructors += Modifier.isPublic(constructor.getModifiers()) ? 1 : 100;
        }
        Probe.due("constructors", constructors, 1);
        Probe.due("the class is public and final",
                face.getModifiers() & (Modifier.PUBLIC | Modifier.FINAL), Modifier.PUBLIC | Modifier.FINAL);
        Probe.finish();
    }

    private static String describe(Method method) {
        StringBuilder text = new StringBuilder();
        text.append(method.getReturnType().getSimpleName()).append(' ').append(method.getName()).append('(');
        for (Class<?> type : method.getParameterTypes()) {
            text.append(text.charAt(text.length() - 1) == '(' ? "" : ",").append(type.getSimpleName());
        }
        text.append(')');
        for (Class<?> type : method.getExceptionTypes()) {
            text.append(" throws ").append(type.getSimpleName());
        }
        return text.toString();
    }

    private static void same(String what, String got, String want) {
        Probe.due(what + " (" + got + ", due " + want + ")", got.equals(want), true);
    }
}
