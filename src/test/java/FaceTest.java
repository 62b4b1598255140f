import java.io.IOException;
import java.lang.reflect.Constructor;
import java.lang.reflect.Field;
import java.lang.reflect.Method;
import java.lang.reflect.Modifier;
import java.util.ArrayList;
import java.util.Collections;
import java.util.List;

/** The class shows the face of the document, and nothing else. */
public final class FaceTest {
    private static final String[] METHODS = {
        "int make(int,int,int,int)", "int put(int,int)", "int ground(int)", "int turn(int)", "int breakUp(int)",
        "int append(int)", "int clear()", "int fault()", "int load()", "int sign(int,int)",
        "int crate(int,int)", "int letter(int,int)", "int seen(int,int)", "int whyNot(int,int)",
        "int effort(int,int)", "int alike(int,int,int,int)", "int nest(int)", "int count(int)", "double full()",
        "int ifTurned(int,int)", "int bestTurn()", "int undo()", "int save()", "int restore()"};

    private FaceTest() {
    }

    public static void main(String[] args) throws IllegalAccessException, IOException {
        Due.due("modifiers of the class", SlatCrates.class.getModifiers(), Modifier.PUBLIC | Modifier.FINAL);
        constants();
        constructors();
        methods();
        document(args.length < 2 ? List.of() : Face.of(args[1]));
        Due.end("FaceTest");
    }

    private static void constants() throws IllegalAccessException {
        List<String> shown = new ArrayList<>();
        for (Field field : SlatCrates.class.getDeclaredFields()) {
            if (!Modifier.isPrivate(field.getModifiers())) {
                shown.add(Modifier.toString(field.getModifiers()) + " " + field.getName() + " " + field.getInt(null));
            }
        }
        Collections.sort(shown);
        Due.due("constants", shown.toString(), "[public static final INVALID_ARGUMENT -1, "
            + "public static final LIMIT_REACHED -3, public static final NOT_FOUND -4, "
            + "public static final NOT_POSSIBLE -2]");
    }

    private static void constructors() {
        List<String> shown = new ArrayList<>();
        for (Constructor<?> constructor : SlatCrates.class.getDeclaredConstructors()) {
            shown.add(constructor.toString());
        }
        Due.due("constructors", shown.toString(), "[public SlatCrates()]");
    }

    private static void methods() {
        List<String> want = new ArrayList<>();
        for (String method : METHODS) {
            want.add("public " + method);
        }
        List<String> shown = new ArrayList<>();
        for (Method method : SlatCrates.class.getDeclaredMethods()) {
            if (!Modifier.isPrivate(method.getModifiers())) {
                shown.add(method.toString().replace("SlatCrates.", ""));
            }
        }
        Collections.sort(want);
        Collections.sort(shown);
        Due.due("methods", shown.toString(), want.toString());
    }

    /** The document's own lines, so that a face that changes there is not overlooked here. */
    private static void document(List<String> face) throws IllegalAccessException {
        List<String> want = new ArrayList<>();
        for (String member : face) {
            want.add(member.replaceAll("int \\w+(?=[,)])", "int").replace(", ", ","));
        }
        List<String> shown = new ArrayList<>();
        for (Field field : SlatCrates.class.getFields()) {
            shown.add(Modifier.toString(field.getModifiers()) + " int " + field.getName() + " = " + field.getInt(null) + ";");
        }
        for (Constructor<?> constructor : SlatCrates.class.getConstructors()) {
            shown.add(constructor + ";");
        }
        for (Method method : SlatCrates.class.getDeclaredMethods()) {
            if (Modifier.isPublic(method.getModifiers())) {
                shown.add(method.toString().replace("SlatCrates.", "") + ";");
            }
        }
        Collections.sort(want);
        Collections.sort(shown);
        Due.due("the face of the document", face.isEmpty() ? "" : shown.toString(), face.isEmpty() ? "" : want.toString());
    }
}
