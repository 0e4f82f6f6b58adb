import java.lang.reflect.Constructor;
import java.lang.reflect.Field;
import java.lang.reflect.Method;
import java.lang.reflect.Modifier;
import java.util.Set;
import java.util.TreeSet;

// The public face: its methods, constants and constructor as they stand in the document, and no others.
public final class FaceTest {
    private static final String[] METHODS = {
        "int feed(int,int,int,int,int)", "int load()", "int run()", "int errorPosition()",
        "int size(int)", "int ratio(int,int)", "int decade(int,int)", "int lead(int)",
        "int part(boolean,int)", "int coldOf(int)", "int share(boolean)", "long deflection()",
        "long current()", "long power(boolean)", "int whyNot()", "long energy()", "int reading(int)",
        "double meanReading()", "float spread()", "int result(int,int)", "long valueOf(int,boolean)",
        "int manner(int,int)", "double meanOf(int)", "long spreadOf(int)", "int steadiest()",
        "int best()", "int ideal()", "long miss()", "int better()", "int bestWith(int,int)",
        "int bestArms()", "long apparent(int)", "long foretold(int,int)", "int steadyIn()",
        "int cooledIn()", "int setArms(int,int)", "int setVolts(int)", "int setTo(int)",
        "int setDigit(int,int)", "int turn()", "int connect(int)", "int rest(int)", "int read()",
        "int balance(boolean)", "int report()", "int reportByte(int)", "int undo()", "int save(int)",
        "int restore(int)",
    };

    public static void main(String[] args) {
        Set<String> due = new TreeSet<>(java.util.Arrays.asList(METHODS));
        Set<String> names = new TreeSet<>();
        Set<String> found = new TreeSet<>();
        for (Method method : DecadeBridge.class.getDeclaredMethods()) {
            if (Modifier.isPublic(method.getModifiers())) {
                found.add(faceOf(method));
                names.add(method.getName());
            }
        }
        Check.dueText("the public methods", found.toString(), due.toString());
        hideTheRest(names);
        constants();
        Constructor<?>[] makers = DecadeBridge.class.getDeclaredConstructors();
        Check.due("constructors", makers.length, 1);
        Check.due("the constructor is public", makers[0].getModifiers(), Modifier.PUBLIC);
        Check.due("the class is public and final", DecadeBridge.class.getModifiers(), Modifier.PUBLIC | Modifier.FINAL);
        Check.end();
    }

    private static String faceOf(Method method) {
        StringBuilder face = new StringBuilder(method.getReturnType().getSimpleName());
        face.append(' ').append(method.getName()).append('(');
        String comma = "";
        for (Class<?> type : method.getParameterTypes()) {
            face.append(comma).append(type.getSimpleName());
            comma = ",";
        }
        return face.append(')').toString();
    }

    // Everything else is private, and bears no name of a public method.
    private static void hideTheRest(Set<String> names) {
        for (Method method : DecadeBridge.class.getDeclaredMethods()) {
            if (!Modifier.isPublic(method.getModifiers())) {
                checkHidden(method.toString(), method.getModifiers());
                Check.due(method + " has a name of its own", names.contains(method.getName()) ? 1 : 0, 0);
            }
        }
        for (Field field : DecadeBridge.class.getDeclaredFields()) {
            if (!field.getName().equals("NONE") && !field.getName().equals("HIDDEN")) {
                checkHidden(field.toString(), field.getModifiers());
            }
        }
        for (Class<?> inner : DecadeBridge.class.getDeclaredClasses()) {
            Check.due(inner + " is static", Modifier.isStatic(inner.getModifiers()) ? 1 : 0, 1);
            Check.due(inner + " is not public", inner.getModifiers() & (Modifier.PUBLIC | Modifier.PROTECTED), 0);
            for (Method method : inner.getDeclaredMethods()) {
                Check.due(method + " has a name of its own", names.contains(method.getName()) ? 1 : 0, 0);
            }
            Check.due(inner + " has some twenty fields at most", fieldsOf(inner) <= 20 ? 1 : 0, 1);
        }
        Check.due("some twelve classes at most", DecadeBridge.class.getDeclaredClasses().length <= 12 ? 1 : 0, 1);
    }

    private static int fieldsOf(Class<?> inner) {
        int fields = 0;
        for (Field field : inner.getDeclaredFields()) {
            if (!Modifier.isStatic(field.getModifiers())) {
                fields++;
            }
        }
        return fields;
    }

    private static void checkHidden(String what, int modifiers) {
        Check.due(what + " is private", Modifier.isPrivate(modifiers) ? 1 : 0, 1);
    }

    private static void constants() {
        Check.due("NONE", DecadeBridge.NONE, -1);
        Check.due("HIDDEN", DecadeBridge.HIDDEN, -1000000000);
    }
}
