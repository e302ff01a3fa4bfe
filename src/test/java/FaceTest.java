import java.lang.reflect.Field;
import java.lang.reflect.Method;
import java.lang.reflect.Modifier;
import java.nio.file.Files;
import java.nio.file.Path;
import java.util.Set;
import java.util.TreeSet;
import java.util.regex.Matcher;
import java.util.regex.Pattern;

/** The face is the document's and nothing more; the source keeps to what of LANGUAGE.md can be seen by its words. */
public final class FaceTest {
    private static final String[] FACE = {
        "seed(int)", "light(int,int)", "shoot(int,int,int,int,int)", "clear()", "dot(int,int,int,int)",
        "at(int,int,int)", "rules(int,int)", "score(int,int,int)", "marks(int)", "mark(int,int,int)",
        "match(int,int,int)", "shift(int,int,int)", "place(int,int)", "open()", "joined()",
        "overlap(int,int,int)", "lights(int,int,int)", "seam(int,int,int)", "whole(int,int,int)",
        "extent(int)", "told(int)",
    };
    private static final String[] CONSTANTS = {"NONE -6", "UNKNOWN -1", "OUTSIDE -2", "FULL -4", "NO -5", "LOST -1000000"};
    private static final String[] NOT_ALLOWED = {
        "\\bimport\\b", "\\bpackage\\b", "->", "::", "\\bcatch\\b", "\\btry\\b", "\\bfinally\\b", "\\bthrow", "Exact\\b",
        "\\bsynchronized\\b", "\\bassert\\b", "\\bSystem\\b", "\\bThread\\b", "\\bdouble\\b", "\\bfloat\\b", "\"",
        "\\bjava\\b", "\\bnull\\b", "MAX_VALUE", "MIN_VALUE",
    };

    public static void main(String[] args) throws Exception {
        face();
        constants();
        classesInside();
        source(Files.readString(Path.of(args[0])));
        Check.end();
    }

    private static void face() {
        Class<?> face = PictureJoin.class;
        Check.due("the class is public and final", face.getModifiers(), Modifier.PUBLIC | Modifier.FINAL);
        Check.due("one constructor", face.getDeclaredConstructors().length, 1);
        Check.due("it is public", face.getDeclaredConstructors()[0].getModifiers(), Modifier.PUBLIC);
        Check.due("without arguments", face.getDeclaredConstructors()[0].getParameterCount(), 0);
        Set<String> calls = new TreeSet<>();
        for (String call : FACE) {
            calls.add("int " + call);
        }
        Set<String> found = new TreeSet<>();
        for (Method method : face.getDeclaredMethods()) {
            if (Modifier.isPrivate(method.getModifiers()) || method.isSynthetic()) {
                continue;
            }
            Check.due("public alone: " + method, method.getModifiers(), Modifier.PUBLIC);
            StringBuilder call = new StringBuilder(method.getReturnType() + " " + method.getName() + "(");
            for (Class<?> type : method.getParameterTypes()) {
                call.append(call.charAt(call.length() - 1) == '(' ? "" : ",").append(type);
            }
            found.add(call.append(")").toString());
        }
        Check.that("the calls are " + found, found.equals(calls));
    }

    private static void constants() throws Exception {
        Set<String> due = new TreeSet<>(java.util.List.of(CONSTANTS));
        Set<String> found = new TreeSet<>();
        for (Field field : PictureJoin.class.getDeclaredFields()) {
            if (Modifier.isPrivate(field.getModifiers())) {
                continue;
            }
            Check.due(field + " is a constant", field.getModifiers(), Modifier.PUBLIC | Modifier.STATIC | Modifier.FINAL);
            found.add(field.getName() + " " + field.getInt(null));
        }
        Check.that("the constants are " + found, found.equals(due));
    }

    private static void classesInside() {
        Class<?>[] inside = PictureJoin.class.getDeclaredClasses();
        Check.that("some twelve classes at most", inside.length < 12);
        for (Class<?> type : inside) {
            int modifiers = type.getModifiers();
            Check.that(type + " is static", Modifier.isStatic(modifiers));
            Check.that(type + " is not seen", !Modifier.isPublic(modifiers) && !Modifier.isProtected(modifiers));
            for (Field field : type.getDeclaredFields()) {
                int own = field.getModifiers();
                Check.that(field + " is no static state", !Modifier.isStatic(own) || Modifier.isFinal(own));
            }
            sizes(type);
        }
        sizes(PictureJoin.class);
    }

    private static void sizes(Class<?> type) {
        int fields = 0;
        for (Field field : type.getDeclaredFields()) {
            fields += Modifier.isStatic(field.getModifiers()) ? 0 : 1;
        }
        Check.that("some twenty fields at most: " + type, fields <= 20);
        for (Method method : type.getDeclaredMethods()) {
            Check.that("seven parameters at most: " + method, method.getParameterCount() <= 7);
            boolean named = Modifier.isPrivate(method.getModifiers()) && namesOfFace().contains(method.getName());
            Check.that("no private method is named as one of the face: " + method, !named);
        }
    }

    private static Set<String> namesOfFace() {
        Set<String> names = new TreeSet<>();
        for (String call : FACE) {
            names.add(call.substring(0, call.indexOf('(')));
        }
        return names;
    }

    private static void source(String text) {
        String code = text.replaceAll("(?s)/\\*.*?\\*/", "").replaceAll("//[^\n]*", "");
        for (String word : NOT_ALLOWED) {
            Matcher matcher = Pattern.compile(word).matcher(code);
            Check.that("the source is without " + word, !matcher.find());
        }
        Matcher library = Pattern.compile("\\b(Math|Integer|Long|String|Arrays)\\.(\\w+)").matcher(code);
        while (library.find()) {
            String call = library.group();
            Check.that("of the library: " + call, Set.of("Math.min", "Math.max", "Math.abs", "Integer.bitCount").contains(call));
        }
        String[] lines = text.split("\n");
        for (int n = 0; n < lines.length; n++) {
            int indent = lines[n].length() - lines[n].stripLeading().length();
            if ((indent == 4 || indent == 8) && lines[n].matches(" +\\w.*\\) \\{")) {
                int end = n;
                while (!lines[end].equals(" ".repeat(indent) + "}")) {
                    end++;
                }
                Check.that("some sixty lines at most: " + lines[n], end - n < 60);
            }
            for (char sign : lines[n].toCharArray()) {
                Check.that("a sign of 1 to 127 in line " + n, sign >= 1 && sign <= 127);
            }
        }
    }
}
