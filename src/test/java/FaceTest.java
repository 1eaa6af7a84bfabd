import java.io.IOException;
import java.lang.reflect.Constructor;
import java.lang.reflect.Field;
import java.lang.reflect.Method;
import java.lang.reflect.Modifier;
import java.nio.file.Files;
import java.nio.file.Path;
import java.util.Arrays;
import java.util.Set;
import java.util.TreeSet;
import java.util.regex.Pattern;

/** The class has the document's face and no more, and keeps to those rules of LANGUAGE.md that a look can tell. */
public final class FaceTest {
    private static final Due due = new Due();
    private static final Set<String> FACE = new TreeSet<>(Arrays.asList(
        "int put(int)", "int path()", "int part(int,int,int)", "int meets(int,int)", "int target()",
        "int entry(int,int,int,long)", "int take(int)", "int dry(int)", "int finish()", "long limit(int,long)",
        "int lead(int)", "int find(int)", "int node(int,int)", "int name(int,int)", "long body(int,int)",
        "boolean inside()", "int told(int)"));

    public static void main(String[] args) throws IOException {
        theFace();
        theClassesInside();
        theText(Files.readString(Path.of("src/main/java/SafePaths.java")));
        due.end();
    }

    private static String signature(Method method) {
        StringBuilder types = new StringBuilder();
        for (Class<?> type : method.getParameterTypes()) {
            types.append(types.length() == 0 ? "" : ",").append(type.getName());
        }
        return method.getReturnType().getName() + " " + method.getName() + "(" + types + ")";
    }

    private static void theFace() {
        int modifiers = SafePaths.class.getModifiers();
        due.holds("the class is public and final", Modifier.isPublic(modifiers) && Modifier.isFinal(modifiers));
        Set<String> face = new TreeSet<>();
        for (Method method : SafePaths.class.getDeclaredMethods()) {
            if (Modifier.isPrivate(method.getModifiers())) {
                noFaceName(method);
            } else {
                due.holds(method + " is public, not static", method.getModifiers() == Modifier.PUBLIC);
                face.add(signature(method));
            }
        }
        due.holds("the face is " + face, face.equals(FACE));
        for (Field field : SafePaths.class.getDeclaredFields()) {
            due.holds(field + " is private", Modifier.isPrivate(field.getModifiers()));
        }
        Constructor<?>[] constructors = SafePaths.class.getDeclaredConstructors();
        due.is("constructors", constructors.length, 1);
        due.holds("it is public", constructors[0].getModifiers() == Modifier.PUBLIC);
        due.holds("it takes an int", Arrays.equals(constructors[0].getParameterTypes(), new Class<?>[] {int.class}));
    }

    private static void noFaceName(Method method) {
        due.holds(method + " has no name of the face", FACE.stream().noneMatch(of -> of.contains(" " + method.getName() + "(")));
    }

    private static void theClassesInside() {
        Class<?>[] inside = SafePaths.class.getDeclaredClasses();
        due.holds("at most twelve classes", inside.length + 1 <= 12);
        for (Class<?> one : inside) {
            int modifiers = one.getModifiers();
            due.holds(one + " is static", Modifier.isStatic(modifiers));
            due.holds(one + " is not public", !Modifier.isPublic(modifiers) && !Modifier.isProtected(modifiers));
            due.holds(one + " has at most twenty fields", one.getDeclaredFields().length <= 20);
            for (Method method : one.getDeclaredMethods()) {
                noFaceName(method);
                due.holds(method + " takes at most seven", method.getParameterCount() <= 7);
            }
        }
    }

    private static void theText(String text) {
        String code = text.replaceAll("(?s)/\\*.*?\\*/", "").replaceAll("//[^\n]*", "");
        String[] no = {"\\btry\\b", "\\bcatch\\b", "\\bthrow\\b", "\\bfinally\\b", "\\bsynchronized\\b", "\\bassert\\b",
            "->", "::", "\\bpackage\\b", "\\bSystem\\b", "Exact\\(", "@", "\\bequals\\b", "\\bhashCode\\b",
            "\\btoString\\b", "\\bObject\\b", "\\bstatic\\s*\\{", "\\bvar\\b", "\\brecord\\b"};
        for (String word : no) {
            due.holds("no " + word, !Pattern.compile(word).matcher(code).find());
        }
        due.is("imports", Pattern.compile("\\bimport\\b").matcher(code).results().count(), 1);
        due.holds("ArrayList is imported", code.contains("import java.util.ArrayList;"));
        // Methods are set apart by blank lines and have none inside.
        for (String block : text.split("\n\n")) {
            due.holds("at most sixty lines: " + block, block.split("\n").length <= 60);
        }
    }
}
