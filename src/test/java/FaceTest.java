import java.io.IOException;
import java.lang.reflect.Constructor;
import java.lang.reflect.Field;
import java.lang.reflect.Method;
import java.lang.reflect.Modifier;
import java.nio.file.Files;
import java.nio.file.Path;
import java.util.ArrayList;
import java.util.Arrays;
import java.util.List;
import java.util.TreeSet;
import java.util.regex.Matcher;
import java.util.regex.Pattern;

/** The public face is the document's, and nothing else. */
public final class FaceTest {
    private static final String[] FACE = {
        "int feed(int,int,int,int,int)", "int law(int)", "int holds(int)", "int fault()", "int know(int,int)",
        "int weigh(int,int)", "int worlds()", "int world(int)", "long all()", "int person(int,int)",
        "int passes(int,int,int)", "int ground(int,boolean,int)", "int days(int)", "int find(int,int,int,int,int)",
        "int name(int,int)", "int hold(int,int,int,int)", "int finders(int)", "int whose(int,int,int,int)",
        "int sure(int,int)", "int may(int,int)", "long part(int,int,int)", "int hangs(int,int)",
        "int settles(int,int)", "int questions(int,int)", "int ask(int,int)", "int claim(int,int,int)",
        "int claimed(int,int)", "int best(int)", "int added(int,int)", "int cry(int)", "int due(int,int)",
        "int left(int,int)", "int gone(int)", "int late(int,int)", "int pass(int,int,int,int)", "int has(int)",
        "boolean away(int,boolean)", "int loss(int,int)", "int beside(int,int)", "int least(int,int,int)",
        "int image()", "int restore()", "int count(int)"};

    private FaceTest() {
    }

    public static void main(String[] args) throws IOException {
        TreeSet<String> face = new TreeSet<>(Arrays.asList(FACE));
        TreeSet<String> publicNames = new TreeSet<>();
        for (Method method : FoundThings.class.getDeclaredMethods()) {
            if (!Modifier.isPrivate(method.getModifiers()) && !method.isSynthetic()) {
                String head = describe(method);
                publicNames.add(method.getName());
                Check.due("in the face and public: " + head, 1,
                    face.remove(head) && Modifier.isPublic(method.getModifiers()) ? 1 : 0);
            }
        }
        Check.due("methods missing: " + face, 0, face.size());
        for (Method method : FoundThings.class.getDeclaredMethods()) {
            if (Modifier.isPrivate(method.getModifiers())) {
                Check.due("private " + method.getName(), 0, publicNames.contains(method.getName()) ? 1 : 0);
            }
        }
        constructorsAndFields();
        faceOfTheDocument();
        Check.end();
    }

    /** Each method's line in the document, with the names of its parameters left out, is what reflection tells. */
    private static void faceOfTheDocument() throws IOException {
        TreeSet<String> mine = new TreeSet<>();
        for (Method method : FoundThings.class.getDeclaredMethods()) {
            if (Modifier.isPublic(method.getModifiers())) {
                mine.add(describe(method) + thrown(method));
            }
        }
        Matcher line = Pattern.compile("^    public (\\w+ \\w+)\\(([^)]*)\\)( throws [^;]*)?;$", Pattern.MULTILINE)
            .matcher(Files.readString(Path.of("../shared/DOC.md")));
        int lines = 0;
        while (line.find()) {
            String parameters = line.group(2).replaceAll(" \\w+(,|$)", "$1").replace(" ", "");
            String head = line.group(1) + "(" + parameters + ")" + (line.group(3) == null ? "" : line.group(3));
            Check.due("the document's " + head, 1, mine.contains(head) ? 1 : 0);
            lines++;
        }
        Check.due("methods in the document", mine.size(), lines);
    }

    private static String thrown(Method method) {
        List<String> names = new ArrayList<>();
        for (Class<?> type : method.getExceptionTypes()) {
            names.add(type.getSimpleName());
        }
        return names.isEmpty() ? "" : " throws " + String.join(", ", names);
    }

    private static String describe(Method method) {
        StringBuilder head = new StringBuilder(method.getReturnType().getName());
        head.append(' ').append(method.getName()).append('(');
        for (int i = 0; i < method.getParameterCount(); i++) {
            head.append(i > 0 ? "," : "").append(method.getParameterTypes()[i].getName());
        }
        return head.append(')').toString();
    }

    private static void constructorsAndFields() {
        Constructor<?>[] constructors = FoundThings.class.getDeclaredConstructors();
        Check.due("one constructor", 1, constructors.length);
        Check.due("public, without parameters", 1,
            Modifier.isPublic(constructors[0].getModifiers()) && constructors[0].getParameterCount() == 0 ? 1 : 0);
        Check.due("the class is public and final", 1,
            FoundThings.class.getModifiers() == (Modifier.PUBLIC | Modifier.FINAL) ? 1 : 0);
        for (Field field : FoundThings.class.getDeclaredFields()) {
            boolean isNone = field.getName().equals("NONE");
            Check.due("field " + field.getName(), isNone ? 0 : 1, Modifier.isPrivate(field.getModifiers()) ? 1 : 0);
        }
        Check.due("NONE", -1, FoundThings.NONE);
        for (Class<?> inside : FoundThings.class.getDeclaredClasses()) {
            Check.due(inside + " is static, not public", 1, Modifier.isStatic(inside.getModifiers())
                && !Modifier.isPublic(inside.getModifiers()) && !Modifier.isProtected(inside.getModifiers()) ? 1 : 0);
        }
    }
}
