import java.io.IOException;
import java.lang.reflect.Method;
import java.lang.reflect.Modifier;
import java.nio.file.Files;
import java.nio.file.Path;
import java.util.Arrays;
import java.util.Set;
import java.util.TreeSet;
import java.util.regex.Matcher;
import java.util.regex.Pattern;

/** Runs the calls that README.md shows, each row 'cars.name(numbers);  // answer: words', in their order. */
public final class ReadmeTest {
    private static final Due due = new Due("ReadmeTest");
    private static final Pattern ROW = Pattern.compile("(?m)^cars\\.(\\w+)\\(([^)]*)\\); +// (-?\\w+)(:.*)?$");

    public static void main(String[] args) throws IOException, ReflectiveOperationException {
        String text = Files.readString(Path.of("README.md"));
        SleepingCars cars = new SleepingCars();
        Set<String> shown = new TreeSet<>();
        Matcher row = ROW.matcher(text);
        int rows = 0;
        while (row.find()) {
            rows++;
            shown.add(row.group(1));
            String answer = answerOf(cars, row.group(1), row.group(2));
            due.yes(row.group() + " (answered " + answer + ")", answer.equals(row.group(3)));
        }
        due.same("rows that are no calls with an answer", text.split("(?m)^cars\\.").length - 1 - rows, 0);
        for (Method method : SleepingCars.class.getDeclaredMethods()) {
            boolean isFace = Modifier.isPublic(method.getModifiers());
            due.yes("README.md shows " + method.getName(), !isFace || shown.contains(method.getName()));
        }
        due.close();
    }

    private static String answerOf(SleepingCars cars, String name, String numbers) throws ReflectiveOperationException {
        Object[] values = numbers.isEmpty() ? new Object[0]
            : Arrays.stream(numbers.split(", ")).map(Integer::decode).toArray();
        Class<?>[] types = new Class<?>[values.length];
        Arrays.fill(types, int.class);
        return String.valueOf(SleepingCars.class.getMethod(name, types).invoke(cars, values));
    }
}
