import java.lang.reflect.Method;
import java.nio.file.Files;
import java.nio.file.Path;
import java.util.Map;
import java.util.Set;
import java.util.TreeMap;
import java.util.TreeSet;
import java.util.regex.Matcher;
import java.util.regex.Pattern;

/** README.md shows each call of the face and each constant, and the calls of its example answer what it says. */
public final class ReadmeTest {
    private static final Pattern EXAMPLE = Pattern.compile("(?m)^join\\.(\\w+)\\(([-\\d, ]*)\\); +// (-?\\d+)\\b");
    private static final Pattern ROW = Pattern.compile("(?m)^\\| `(\\w+)\\(([\\w, ]*)\\)` \\|");

    public static void main(String[] args) throws Exception {
        Path project = Path.of(args[0]).toAbsolutePath().resolve("../../../..").normalize();
        String text = Files.readString(project.resolve("README.md"));
        Map<String, Method> face = new TreeMap<>();
        for (Method method : PictureJoin.class.getDeclaredMethods()) {
            if (java.lang.reflect.Modifier.isPublic(method.getModifiers())) {
                face.put(method.getName(), method);
            }
        }
        example(text, face);
        rows(text, face);
        constants(text);
        tests(text, project);
        Check.end();
    }

    private static void example(String text, Map<String, Method> face) throws Exception {
        PictureJoin join = new PictureJoin();
        Matcher line = EXAMPLE.matcher(text);
        int lines = 0;
        while (line.find()) {
            String[] words = line.group(2).isEmpty() ? new String[0] : line.group(2).split(", *");
            Object[] given = new Object[words.length];
            for (int k = 0; k < words.length; k++) {
                given[k] = Integer.parseInt(words[k]);
            }
            int got = (int) face.get(line.group(1)).invoke(join, given);
            Check.due(line.group(1) + "(" + line.group(2) + ")", got, Integer.parseInt(line.group(3)));
            lines++;
        }
        Check.that("each line of the example was read: " + lines, lines == text.split("\njoin\\.", -1).length - 1 && lines > 9);
    }

    private static void rows(String text, Map<String, Method> face) {
        Matcher row = ROW.matcher(text);
        Set<String> told = new TreeSet<>();
        while (row.find()) {
            String name = row.group(1);
            int arguments = row.group(2).isEmpty() ? 0 : row.group(2).split(",").length;
            Check.that(name + " is of the face", face.containsKey(name));
            Check.that(name + " stands once", told.add(name));
            Check.due("arguments of " + name, arguments, face.containsKey(name) ? face.get(name).getParameterCount() : -1);
        }
        Check.that("all calls are told: " + told, told.equals(face.keySet()));
    }

    private static void constants(String text) throws Exception {
        for (String name : new String[] {"UNKNOWN", "OUTSIDE", "FULL", "NO"}) {
            int value = PictureJoin.class.getField(name).getInt(null);
            Check.that("the row of " + name, text.contains("| `" + name + "` | " + value + " |"));
        }
        Check.that("LOST", text.contains("`LOST` (" + PictureJoin.LOST + ")"));
        Check.that("NONE", text.contains("`NONE` (" + PictureJoin.NONE + ")"));
        Check.that("512 calls", text.contains("512 calls"));
    }

    private static void tests(String text, Path project) {
        for (String file : project.resolve("src/test/java").toFile().list()) {
            Check.that("the page tells of " + file, text.contains("`" + file.replace(".java", "") + "`"));
        }
    }
}
