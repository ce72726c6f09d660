import java.lang.reflect.Constructor;
import java.lang.reflect.Field;
import java.lang.reflect.Method;
import java.lang.reflect.Modifier;
import java.util.ArrayList;
import java.util.Arrays;
import java.util.Collections;
import java.util.List;

/** The face is the document's, and there is no other member that another class could see. */
public final class FaceTest {
    private static final String INDEX = "IndexOutOfBoundsException ";
    private static final String ARGUMENT = "IllegalArgumentException ";
    private static final String STATE = "IllegalStateException ";

    private static final String[] FACE = {
        "int page(boolean) " + STATE,
        "int panel(int,int,int,int,int) " + INDEX + ARGUMENT + STATE,
        "boolean turn(int,boolean) " + INDEX + STATE,
        "int read(int,boolean,int) " + INDEX,
        "int doubts(int) " + INDEX,
        "int orders(int,boolean) " + INDEX,
        "boolean isOne(int,boolean) " + INDEX,
        "int mirror(int) " + INDEX + STATE,
        "int figure() " + STATE,
        "void draw(int,int,int,int,int,int,int,boolean) " + INDEX + ARGUMENT + STATE,
        "int balloon(int,int,int,int,int,int,int,int) " + INDEX + ARGUMENT + STATE,
        "void move(int,int,int,int) " + INDEX + ARGUMENT + STATE,
        "int faults(int,int) " + INDEX,
        "int breaks() ",
        "int tell(int,int,int,boolean) " + INDEX + ARGUMENT + STATE,
        "int known(int,int,int) " + INDEX + ARGUMENT,
        "int contradictions(int) " + INDEX,
        "int workers(int) " + ARGUMENT,
        "int pass(int) " + ARGUMENT + STATE,
        "int stage(int) " + INDEX,
        "int press(int) " + INDEX + STATE,
        "int printed(int,int) " + INDEX + ARGUMENT,
    };

    public static void main(String[] args) {
        Due due = new Due("FaceTest");
        due.is("the class is public and final", Modifier.PUBLIC | Modifier.FINAL, Panelry.class::getModifiers);
        due.same("the methods", sorted(Arrays.asList(FACE)), sorted(openMethods()));
        due.same("the constants", "[NONE]", openFields().toString());
        Constructor<?>[] constructors = Panelry.class.getDeclaredConstructors();
        due.is("the constructors", 1, () -> constructors.length);
        due.holds("the constructor is public", true, () -> Modifier.isPublic(constructors[0].getModifiers()));
        for (Class<?> inside : Panelry.class.getDeclaredClasses()) {
            due.holds(inside.getName() + " is static and not public", true, () -> Modifier.isStatic(inside.getModifiers())
                    && !Modifier.isPublic(inside.getModifiers()) && !Modifier.isProtected(inside.getModifiers()));
        }
        due.same("private methods with the name of a public one", "[]", doubledNames().toString());
        due.same("static fields that are not final", "[]", changingStatics().toString());
        due.end();
    }

    private static List<Class<?>> allClasses() {
        List<Class<?>> all = new ArrayList<>(Arrays.asList(Panelry.class.getDeclaredClasses()));
        all.add(Panelry.class);
        return all;
    }

    private static List<String> openMethods() {
        List<String> open = new ArrayList<>();
        for (Method m : Panelry.class.getDeclaredMethods()) {
            if (!Modifier.isPrivate(m.getModifiers())) {
                StringBuilder text = new StringBuilder(m.getReturnType().getName()).append(' ').append(m.getName());
                text.append('(');
                for (Class<?> p : m.getParameterTypes()) {
                    text.append(text.charAt(text.length() - 1) == '(' ? "" : ",").append(p.getName());
                }
                text.append(") ");
                for (Class<?> e : m.getExceptionTypes()) {
                    text.append(e.getSimpleName()).append(' ');
                }
                open.add(text.toString());
            }
        }
        return open;
    }

    private static List<String> openFields() {
        List<String> open = new ArrayList<>();
        for (Field f : Panelry.class.getDeclaredFields()) {
            if (!Modifier.isPrivate(f.getModifiers())) {
                open.add(f.getName());
            }
        }
        return open;
    }

    private static List<String> doubledNames() {
        List<String> doubled = new ArrayList<>();
        for (Class<?> c : allClasses()) {
            for (Method m : c.getDeclaredMethods()) {
                boolean isOfTheFace = c == Panelry.class && Modifier.isPublic(m.getModifiers());
                for (String told : FACE) {
                    if (!isOfTheFace && told.contains(" " + m.getName() + "(")) {
                        doubled.add(c.getSimpleName() + "." + m.getName());
                    }
                }
            }
        }
        return doubled;
    }

    private static List<String> changingStatics() {
        List<String> changing = new ArrayList<>();
        for (Class<?> c : allClasses()) {
            for (Field f : c.getDeclaredFields()) {
                if (Modifier.isStatic(f.getModifiers()) && !Modifier.isFinal(f.getModifiers())) {
                    changing.add(c.getSimpleName() + "." + f.getName());
                }
            }
        }
        return changing;
    }

    private static String sorted(List<String> lines) {
        List<String> copy = new ArrayList<>(lines);
        Collections.sort(copy);
        return copy.toString();
    }
}
