import java.io.IOException;
import java.lang.reflect.Constructor;
import java.lang.reflect.Field;
import java.lang.reflect.Method;
import java.lang.reflect.Modifier;
import java.nio.file.Files;
import java.nio.file.Path;
import java.util.Arrays;
import java.util.Set;
import java.util.TreeSet;
import java.util.regex.Matcher;
import java.util.regex.Pattern;

/** The rules of LANGUAGE.md that can be looked up: the face by reflection, the rest in the source. */
public final class LanguageTest {
    private static final Path SOURCE = Path.of("src/main/java/WorkerRows.java");

    private static final String[] METHODS = {
        "int tool(long,int)", "int edition(int,long)", "boolean quirk(int,int)", "int request(int,long,int)",
        "int cancel(int)", "int step()", "int finish(int)", "int crash(int)", "int tick(int)", "int sample(int)",
        "int about(int,int)", "long result(int)", "int worker(int,int)", "int bars(int)", "long oneShot(long,long)"};

    private static final String[] BARRED_WORDS = {
        "throw", "throws", "try", "catch", "finally", "synchronized", "assert", "import", "package", "protected",
        "native", "volatile", "transient", "System", "Object", "Thread", "hashCode", "toString"};

    public static void main(String[] args) throws IOException {
        classIsPublicAndFinal();
        faceIsTheDocuments();
        nothingElseIsVisible();
        noPrivateMethodHasAPublicName();
        classesInsideAreStatic();
        staticFieldsAreConstants();
        sourceKeepsToTheLanguage(withoutComments(Files.readString(SOURCE)));
        Check.end();
    }

    private static void holds(String what, boolean held) {
        Check.holds("LanguageTest: " + what, held);
    }

    private static void classIsPublicAndFinal() {
        int modifiers = WorkerRows.class.getModifiers();
        holds("a public final class", Modifier.isPublic(modifiers) && Modifier.isFinal(modifiers));
        holds("no package", WorkerRows.class.getPackageName().isEmpty());
        holds("no class above it", WorkerRows.class.getSuperclass() == Object.class);
    }

    private static void faceIsTheDocuments() {
        Set<String> found = new TreeSet<>();
        for (Method method : WorkerRows.class.getDeclaredMethods()) {
            if (Modifier.isPublic(method.getModifiers())) {
                holds(method.getName() + " is no static method", !Modifier.isStatic(method.getModifiers()));
                String parameters = Arrays.toString(
                        Arrays.stream(method.getParameterTypes()).map(Class::getName).toArray());
                found.add(method.getReturnType().getName() + " " + method.getName()
                        + parameters.replace("[", "(").replace("]", ")").replace(" ", ""));
            }
        }
        holds("the public methods are the document's", found.equals(new TreeSet<>(Arrays.asList(METHODS))));
        Constructor<?>[] constructors = WorkerRows.class.getDeclaredConstructors();
        holds("one public constructor of three ints", constructors.length == 1
                && Modifier.isPublic(constructors[0].getModifiers())
                && Arrays.equals(constructors[0].getParameterTypes(), new Class<?>[] {int.class, int.class, int.class}));
    }

    private static void nothingElseIsVisible() {
        for (Field field : WorkerRows.class.getDeclaredFields()) {
            holds(field.getName() + " is private", field.getName().equals("NONE")
                    ? Modifier.isPublic(field.getModifiers())
                    : Modifier.isPrivate(field.getModifiers()));
        }
        for (Method method : WorkerRows.class.getDeclaredMethods()) {
            int modifiers = method.getModifiers();
            holds(method.getName() + " is public or private",
                    Modifier.isPublic(modifiers) || Modifier.isPrivate(modifiers));
            holds(method.getName() + " has at most seven parameters", method.getParameterCount() <= 7);
        }
    }

    private static void noPrivateMethodHasAPublicName() {
        Set<String> names = new TreeSet<>();
        for (Method method : WorkerRows.class.getDeclaredMethods()) {
            holds("one method has the name " + method.getName(), names.add(method.getName()));
        }
    }

    private static void classesInsideAreStatic() {
        Class<?>[] inside = WorkerRows.class.getDeclaredClasses();
        holds("at most some twelve classes", inside.length < 12);
        for (Class<?> each : inside) {
            holds(each.getName() + " is static", Modifier.isStatic(each.getModifiers()));
            holds(each.getName() + " has at most twenty fields", each.getDeclaredFields().length <= 20);
        }
    }

    private static void staticFieldsAreConstants() {
        int own = 0;
        for (Field field : WorkerRows.class.getDeclaredFields()) {
            if (Modifier.isStatic(field.getModifiers())) {
                holds(field.getName() + " is final", Modifier.isFinal(field.getModifiers()));
                holds(field.getName() + " is an int or a long",
                        field.getType() == int.class || field.getType() == long.class);
            } else {
                own++;
            }
        }
        holds("at most twenty fields", own <= 20);
    }

    private static String withoutComments(String source) {
        return source.replaceAll("(?s)/\\*.*?\\*/", " ").replaceAll("//[^\n]*", " ");
    }

    private static void sourceKeepsToTheLanguage(String source) {
        for (String word : BARRED_WORDS) {
            holds("no " + word, !Pattern.compile("\\b" + word + "\\b").matcher(source).find());
        }
        holds("no lambda, no method reference", !source.contains("->") && !source.contains("::"));
        holds("no division that could have a divisor of 0", !source.contains("/") && !source.contains("%"));
        holds("no text", !source.contains("\""));
        Matcher library = Pattern.compile("\\b(Math|Integer|Long|Arrays|List|ArrayList)\\.(\\w+)").matcher(source);
        while (library.find()) {
            holds(library.group() + " is of the library", Set.of("Math.max", "Math.min").contains(library.group()));
        }
    }
}
