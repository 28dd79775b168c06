import java.io.IOException;
import java.lang.reflect.Constructor;
import java.lang.reflect.Field;
import java.lang.reflect.Method;
import java.lang.reflect.Modifier;
import java.nio.file.Files;
import java.nio.file.Path;
import java.util.ArrayList;
import java.util.List;
import java.util.TreeSet;
import java.util.regex.Matcher;
import java.util.regex.Pattern;

/** The class's face is the document's and no more, and the source keeps to the rules that can be seen by words. */
public final class FaceTest {
    private static final String[] FACE = {
        "int posts(int)", "int wire(int,int,int)", "int frost(int)", "int guard(int,boolean)", "int wind(int,int)",
        "int calm()", "int pass(int,int,int)", "int undo()", "int type(long,int)", "int clear()", "int read()",
        "int sounds(int,int,int)", "int away(int,int)", "int heard(int,int)", "int alarm(int)",
        "int which(int,int,int,int,int)", "int cover(int)", "int clashes()", "int retune()", "int slip(int)",
        "int lot(int,int,int)", "int surest(int,int)", "int whence(int,int,int)", "int doubled()", "int doubt(int,int)",
        "long part(int)", "int image(int)", "int from(int)", "int status(int)", "int count(int)", "long digest()"
    };
    private static final String[] FORBIDDEN = {
        "throw", "try", "catch", "synchronized", "assert", "import", "package", "System.out", "->", "::", "protected"
    };

    private FaceTest() {
    }

    public static void main(String[] args) throws IOException {
        constants();
        methods();
        classesInside();
        source();
        Due.end();
    }

    private static void constants() {
        Due.due("NONE", BorderHarp.NONE, -1);
        Due.due("BAD", BorderHarp.BAD, -2);
        Due.due("NO", BorderHarp.NO, -3);
        Due.due("FULL", BorderHarp.FULL, -4);
        int open = 0;
        for (Field field : BorderHarp.class.getDeclaredFields()) {
            open += Modifier.isPrivate(field.getModifiers()) ? 0 : 1;
            boolean changing = Modifier.isStatic(field.getModifiers()) && !Modifier.isFinal(field.getModifiers());
            Due.due("changing static field " + field.getName(), changing ? 1 : 0, 0);
        }
        Due.due("fields that are seen", open, 4);
    }

    private static void methods() {
        TreeSet<String> due = new TreeSet<>(List.of(FACE));
        TreeSet<String> names = new TreeSet<>();
        for (String line : FACE) {
            names.add(line.substring(line.indexOf(' ') + 1, line.indexOf('(')));
        }
        TreeSet<String> seen = new TreeSet<>();
        for (Method method : BorderHarp.class.getDeclaredMethods()) {
            if (Modifier.isPublic(method.getModifiers())) {
                seen.add(told(method));
            } else {
                Due.due("private " + told(method), Modifier.isPrivate(method.getModifiers()) ? 1 : 0, 1);
                Due.due("a public name for " + told(method), names.contains(method.getName()) ? 1 : 0, 0);
            }
        }
        System.out.print(seen.equals(due) ? "" : "the face is " + seen + "\n");
        Due.due("the face", seen.equals(due) ? 1 : 0, 1);
        Constructor<?>[] makers = BorderHarp.class.getDeclaredConstructors();
        Due.due("constructors", makers.length, 1);
        Due.due("its parameters", makers[0].getParameterCount(), 0);
        Due.due("it is public", Modifier.isPublic(makers[0].getModifiers()) ? 1 : 0, 1);
        Due.due("the class is public and final",
                BorderHarp.class.getModifiers() & (Modifier.PUBLIC | Modifier.FINAL), Modifier.PUBLIC | Modifier.FINAL);
    }

    private static String told(Method method) {
        List<String> types = new ArrayList<>();
        for (Class<?> type : method.getParameterTypes()) {
            types.add(type.getName());
        }
        return method.getReturnType().getName() + " " + method.getName() + "(" + String.join(",", types) + ")";
    }

    private static void classesInside() {
        Class<?>[] inside = BorderHarp.class.getDeclaredClasses();
        Due.due("at most twelve classes", inside.length < 12 ? 1 : 0, 1);
        for (Class<?> one : inside) {
            Due.due(one.getName() + " is static", Modifier.isStatic(one.getModifiers()) ? 1 : 0, 1);
            Due.due(one.getName() + " is not public", Modifier.isPublic(one.getModifiers()) ? 1 : 0, 0);
            Due.due(one.getName() + " has some twenty fields", one.getDeclaredFields().length <= 20 ? 1 : 0, 1);
            for (Method method : one.getDeclaredMethods()) {
                Due.due(told(method) + " has seven parameters at most", method.getParameterCount() <= 7 ? 1 : 0, 1);
            }
        }
    }

    private static void source() throws IOException {
        String code = Files.readString(Path.of("src/main/java/BorderHarp.java"));
        String bare = code.replaceAll("(?s)/\\*.*?\\*/", " ").replaceAll("//[^\n]*", " ").replaceAll("\"[^\"\n]*\"", " ");
        for (String word : FORBIDDEN) {
            String edge = Character.isLetter(word.charAt(0)) ? "\\b" : "";
            Matcher matcher = Pattern.compile(edge + Pattern.quote(word) + edge).matcher(bare);
            Due.due("'" + word + "' in the source", matcher.find() ? 1 : 0, 0);
        }
    }
}
