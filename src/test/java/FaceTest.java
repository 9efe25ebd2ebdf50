import java.lang.reflect.Constructor;
import java.lang.reflect.Field;
import java.lang.reflect.Method;
import java.lang.reflect.Modifier;
import java.util.ArrayList;
import java.util.Arrays;
import java.util.Collections;
import java.util.List;

/** The public face is the document's, and nothing else of the class can be seen from outside. */
public final class FaceTest {
    private static final String INDEX = " throws IndexOutOfBoundsException";
    private static final String STATE = INDEX + ",IllegalStateException";
    private static final String ARGUMENT = STATE + ",IllegalArgumentException";
    private static final String[] FACE = {
        "int add(int,int,int,int)" + ARGUMENT,
        "int again(int,int)" + ARGUMENT,
        "int bytes(int)",
        "boolean cut(int)",
        "boolean drop(int)",
        "void open(int)" + STATE,
        "int pack(int)" + STATE,
        "long place(int,int,boolean,boolean)" + ARGUMENT,
        "boolean put(int,long)",
        "int sample(int,int,int)" + INDEX,
        "int seal(int,int)" + ARGUMENT,
        "long span(int,boolean,boolean)" + INDEX,
        "int spans(int,int,int,int,int)" + ARGUMENT,
        "int track(int,int)",
        "int unpack(int,int)" + ARGUMENT,
    };

    public static void main(String[] args) {
        Check.due("the class is public and final", () -> Modifier.toString(DriftLog.class.getModifiers()), "public final");
        Check.due("NONE", () -> DriftLog.NONE, -1);
        List<String> due = new ArrayList<>(Arrays.asList(FACE));
        Collections.sort(due);
        Check.due("the methods that can be seen", () -> visibleMethods(), due);
        Check.due("the fields that can be seen", () -> visibleFields(), List.of("public static final int DriftLog.NONE"));
        Check.due("the constructors", () -> constructors(), List.of("public DriftLog()"));
        Check.due("static fields that are not final", () -> changingStatics(), List.of());
        Check.due("private methods with a public one's name", () -> sharedNames(), List.of());
        Check.end();
    }

    private static List<String> visibleMethods() {
        List<String> seen = new ArrayList<>();
        for (Method m : DriftLog.class.getDeclaredMethods()) {
            if (!Modifier.isPrivate(m.getModifiers())) {
                seen.add(m.toString().replace("public ", "").replace("DriftLog.", "").replace("java.lang.", ""));
            }
        }
        Collections.sort(seen);
        return seen;
    }

    private static List<String> visibleFields() {
        List<String> seen = new ArrayList<>();
        for (Field f : DriftLog.class.getDeclaredFields()) {
            if (!Modifier.isPrivate(f.getModifiers())) {
                seen.add(f.toString());
            }
        }
        return seen;
    }

    private static List<String> constructors() {
        List<String> seen = new ArrayList<>();
        for (Constructor<?> c : DriftLog.class.getDeclaredConstructors()) {
            seen.add(c.toString());
        }
        return seen;
    }

    private static List<String> changingStatics() {
        List<String> seen = new ArrayList<>();
        for (Class<?> c : allClasses()) {
            for (Field f : c.getDeclaredFields()) {
                if (Modifier.isStatic(f.getModifiers()) && !Modifier.isFinal(f.getModifiers())) {
                    seen.add(f.toString());
                }
            }
        }
        return seen;
    }

    private static List<String> sharedNames() {
        List<String> seen = new ArrayList<>();
        for (Class<?> c : allClasses()) {
            for (Method m : c.getDeclaredMethods()) {
                boolean ofFace = c == DriftLog.class && Modifier.isPublic(m.getModifiers());
                if (!ofFace && Arrays.stream(FACE).anyMatch(f -> f.contains(" " + m.getName() + "("))) {
                    seen.add(m.toString());
                }
            }
        }
        return seen;
    }

    private static List<Class<?>> allClasses() {
        List<Class<?>> all = new ArrayList<>(Arrays.asList(DriftLog.class.getDeclaredClasses()));
        all.add(DriftLog.class);
        return all;
    }
}
