import java.io.IOException;
import java.lang.reflect.InvocationTargetException;
import java.lang.reflect.Method;
import java.lang.reflect.Modifier;
import java.nio.file.Files;
import java.nio.file.Path;
import java.util.Arrays;
import java.util.Set;
import java.util.TreeSet;
import java.util.regex.Matcher;
import java.util.regex.Pattern;

/** The calls that README.md tells, one behind the other on one object, with the answers that it tells. */
public final class ReadmeTest {
    private static final Pattern CALL = Pattern.compile("^(\\w+)\\((.*?)\\)(?: -> (throws \\w+|\\S+).*)?$");

    public static void main(String[] args) throws IOException, ReflectiveOperationException {
        Path page = Path.of(System.getProperty("project", "."), "README.md");
        CountyWatch x = new CountyWatch();
        Set<String> left = new TreeSet<>();
        for (Method method : CountyWatch.class.getDeclaredMethods()) {
            if (Modifier.isPublic(method.getModifiers())) {
                left.add(method.getName());
            }
        }
        boolean within = false;
        for (String line : Files.readAllLines(page)) {
            if (line.startsWith("```")) {
                within = line.equals("```text");
                continue;
            }
            Matcher call = CALL.matcher(line);
            if (within) {
                Due.due("a call: " + line, call.matches(), true);
                left.remove(call.group(1));
                String want = call.group(3) == null ? "nothing" : call.group(3);
                String got = answer(x, call.group(1), call.group(2));
                Due.due("README.md: " + line + " (answered: " + got + ")", got.equals(want), true);
            }
        }
        Due.due("calls of the face that README.md does not tell: " + left, left.isEmpty(), true);
        Due.finish("ReadmeTest");
    }

    private static String answer(CountyWatch x, String name, String told) throws ReflectiveOperationException {
        String[] words = told.isEmpty() ? new String[0] : told.split(", ");
        Method method = Arrays.stream(CountyWatch.class.getDeclaredMethods())
            .filter(m -> m.getName().equals(name) && m.getParameterCount() == words.length).findFirst().orElseThrow();
        Object[] arguments = new Object[words.length];
        for (int i = 0; i < words.length; i++) {
            arguments[i] = method.getParameterTypes()[i] == int.class ? (Object) Integer.decode(words[i]) : (Object) Boolean.valueOf(words[i]);
        }
        try {
            return written(method.invoke(x, arguments), name);
        } catch (InvocationTargetException e) {
            return "throws " + e.getCause().getClass().getSimpleName();
        }
    }

    private static String written(Object got, String name) {
        if (got == null) {
            return "nothing";
        }
        boolean none = got.equals(CountyWatch.NONE) && !name.equals("line") && !name.equals("habit");
        return none ? "NONE" : got.equals(CountyWatch.HIDDEN) ? "HIDDEN" : got.toString();
    }
}
