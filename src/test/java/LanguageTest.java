import java.io.IOException;
import java.lang.reflect.Constructor;
import java.lang.reflect.Field;
import java.lang.reflect.Method;
import java.lang.reflect.Modifier;
import java.nio.file.Files;
import java.nio.file.Path;
import java.util.ArrayList;
import java.util.Collections;
import java.util.List;
import java.util.Set;
import java.util.TreeSet;
import java.util.regex.Matcher;
import java.util.regex.Pattern;

/** The rules of LANGUAGE.md that can be seen from the text, or by looking at the class. */
public final class LanguageTest {
    private static final Path SOURCE = Path.of("src/main/java/SleepingCars.java");
    private static final Path DOCUMENT = Path.of("../shared/DOC.md");
    private static final Due due = new Due("LanguageTest");

    public static void main(String[] args) throws IOException {
        String code = withoutComments(Files.readString(SOURCE));
        faceIsTheDocuments(Files.readString(DOCUMENT));
        nothingElseIsSeen();
        noWordIsForbidden(code);
        parametersAreFew();
        noNameIsUsedTwice();
        staticFieldsAreFinal();
        methodsAreShort(code);
        objectsAreMadeOnce(code);
        due.close();
    }

    private static String withoutComments(String code) {
        return code.replaceAll("(?s)/\\*.*?\\*/", " ").replaceAll("//[^\n]*", " ");
    }

    /** Each row of the document's face, as 'type name(types)'. */
    private static void faceIsTheDocuments(String document) {
        String face = document.substring(document.indexOf("```java"), document.indexOf("## Terms"));
        List<String> want = new ArrayList<>();
        Matcher m = Pattern.compile("public (int|long|boolean) (\\w+)\\(([^)]*)\\);").matcher(face);
        while (m.find()) {
            want.add(m.group(1) + " " + m.group(2) + "(" + m.group(3).replaceAll(" \\w+(,|$)", "$1") + ")");
        }
        List<String> got = new ArrayList<>();
        for (Method method : SleepingCars.class.getDeclaredMethods()) {
            if (Modifier.isPublic(method.getModifiers())) {
                got.add(method.getReturnType() + " " + method.getName() + "(" + types(method) + ")");
            }
        }
        Collections.sort(want);
        Collections.sort(got);
        due.same("methods of the face " + got, got.equals(want) ? 1 : 0, 1);
        due.same("methods", want.size(), 24);
    }

    private static String types(Method method) {
        List<String> names = new ArrayList<>();
        for (Class<?> type : method.getParameterTypes()) {
            names.add(type.getName());
        }
        return String.join(", ", names);
    }

    private static void nothingElseIsSeen() {
        due.yes("the class is public and final", SleepingCars.class.getModifiers() == (Modifier.PUBLIC | Modifier.FINAL));
        Constructor<?>[] constructors = SleepingCars.class.getDeclaredConstructors();
        due.same("constructors", constructors.length, 1);
        due.yes("it is public", Modifier.isPublic(constructors[0].getModifiers()));
        for (Field field : SleepingCars.class.getDeclaredFields()) {
            boolean isFace = field.getName().equals("NONE");
            due.yes("field " + field, isFace == Modifier.isPublic(field.getModifiers()));
            due.yes("field " + field, isFace || Modifier.isPrivate(field.getModifiers()));
        }
        for (Method method : SleepingCars.class.getDeclaredMethods()) {
            int kind = method.getModifiers();
            due.yes("method " + method, Modifier.isPublic(kind) || Modifier.isPrivate(kind));
        }
        Class<?>[] inside = SleepingCars.class.getDeclaredClasses();
        due.yes("classes", inside.length < 12);
        for (Class<?> one : inside) {
            due.yes("static " + one, Modifier.isStatic(one.getModifiers()));
            due.yes("fields of " + one, one.getDeclaredFields().length <= 20);
        }
    }

    private static void noWordIsForbidden(String code) {
        String[] words = {
            "throw", "throws", "try", "catch", "finally", "synchronized", "assert", "package", "protected",
            "Random", "Thread", "nanoTime", "currentTimeMillis", "hashCode", "toString", "->", "::", "Exact",
        };
        for (String word : words) {
            String sign = word.matches("\\w+") ? "\\b" + word + "\\b" : Pattern.quote(word);
            due.no(word, Pattern.compile(sign).matcher(code).find());
        }
        Matcher m = Pattern.compile("import ([\\w.]+);").matcher(code);
        while (m.find()) {
            due.yes("import " + m.group(1), m.group(1).equals("java.util.Arrays"));
        }
    }

    private static void parametersAreFew() {
        for (Class<?> one : SleepingCars.class.getDeclaredClasses()) {
            for (Method method : one.getDeclaredMethods()) {
                due.yes("parameters of " + method, method.getParameterCount() <= 7);
            }
        }
    }

    private static void noNameIsUsedTwice() {
        Set<String> face = new TreeSet<>();
        Set<String> others = new TreeSet<>();
        for (Method method : SleepingCars.class.getDeclaredMethods()) {
            (Modifier.isPublic(method.getModifiers()) ? face : others).add(method.getName());
        }
        for (Class<?> one : SleepingCars.class.getDeclaredClasses()) {
            for (Method method : one.getDeclaredMethods()) {
                others.add(method.getName());
            }
        }
        others.retainAll(face);
        due.same("names that are used twice " + others, others.size(), 0);
    }

    private static void staticFieldsAreFinal() {
        List<Class<?>> all = new ArrayList<>(List.of(SleepingCars.class.getDeclaredClasses()));
        all.add(SleepingCars.class);
        for (Class<?> one : all) {
            for (Field field : one.getDeclaredFields()) {
                int kind = field.getModifiers();
                boolean isConstant = Modifier.isFinal(kind) && field.getType() == int.class;
                due.yes("static field " + field, !Modifier.isStatic(kind) || isConstant);
            }
        }
    }

    private static void methodsAreShort(String code) {
        Matcher m = Pattern.compile("(?m)^( +)[\\w\\[\\] ]+\\([\\w\\[\\], ]*\\) \\{\n(?s:.*?)\n\\1\\}$").matcher(code);
        int methods = 0;
        while (m.find()) {
            methods++;
            due.yes("lines of " + m.group().strip().split("\n")[0], m.group().split("\n").length <= 60);
        }
        due.yes("methods are found", methods > 80);
    }

    /** All calls of a run share one room, so objects are made with an object, or at its first image k. */
    private static void objectsAreMadeOnce(String code) {
        int made = 0;
        for (String row : code.split("\n")) {
            if (row.contains("new ")) {
                made++;
                boolean isField = row.strip().matches("(private )?final .* = new .*;");
                due.yes("made once: " + row.strip(), isField || row.strip().equals("images[k] = new Book();"));
            }
        }
        due.yes("objects are found", made > 30);
    }
}
