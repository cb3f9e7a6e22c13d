import java.lang.reflect.Constructor;
import java.lang.reflect.Field;
import java.lang.reflect.Method;
import java.lang.reflect.Modifier;
import java.nio.file.Files;
import java.nio.file.Path;
import java.util.Arrays;
import java.util.List;
import java.util.TreeSet;
import java.util.regex.Matcher;
import java.util.regex.Pattern;

/** The face of the class is the document's, and the file keeps to what of LANGUAGE.md can be seen from outside. */
public final class FaceTest {
    private static final Path SOURCE = Path.of("src/main/java/BiteYears.java");
    private static final Path DOCUMENT = Path.of("../shared/DOC.md");

    public static void main(String[] args) throws Exception {
        face();
        members(BiteYears.class);
        for (Class<?> inside : BiteYears.class.getDeclaredClasses()) {
            Check.due(inside + " is static", Modifier.isStatic(inside.getModifiers()), true);
            Check.due(inside + " is not public", Modifier.isPublic(inside.getModifiers()), false);
            members(inside);
        }
        Check.due("at most twelve classes", BiteYears.class.getDeclaredClasses().length < 12, true);
        source();
        lengths();
        Check.finish();
    }

    private static void face() throws Exception {
        String document = Files.readString(DOCUMENT);
        String block = document.substring(document.indexOf("```java"), document.indexOf("## Terms"));
        TreeSet<String> want = new TreeSet<>();
        Matcher line = Pattern.compile("public (?:static final )?(\\w+) (\\w+)\\(([^)]*)\\)([^;]*);").matcher(block);
        while (line.find()) {
            want.add(line.group(1) + " " + line.group(2) + "(" + line.group(3).replaceAll("(\\w+) \\w+", "$1") + ")"
                + line.group(4).replace("throws ", "").trim());
        }
        TreeSet<String> got = new TreeSet<>();
        for (Method method : BiteYears.class.getDeclaredMethods()) {
            if (Modifier.isPublic(method.getModifiers())) {
                String types = String.join(", ", Arrays.stream(method.getParameterTypes()).map(Class::getSimpleName).toList());
                String thrown = String.join(", ", Arrays.stream(method.getExceptionTypes()).map(Class::getSimpleName).toList());
                got.add(method.getReturnType().getSimpleName() + " " + method.getName() + "(" + types + ")" + thrown);
            } else {
                Check.due(method + " is private", Modifier.isPrivate(method.getModifiers()), true);
            }
        }
        Check.due("the face", got, want);
        Check.due("47 methods", got.size(), 47);
        Constructor<?>[] constructors = BiteYears.class.getDeclaredConstructors();
        Check.due("one constructor", constructors.length, 1);
        Check.due("it is public", Modifier.isPublic(constructors[0].getModifiers()), true);
        Check.due("it takes nothing", constructors[0].getParameterCount(), 0);
        Check.due("the class is final", Modifier.isFinal(BiteYears.class.getModifiers()), true);
        for (Field field : BiteYears.class.getDeclaredFields()) {
            Check.due(field + " is private", Modifier.isPrivate(field.getModifiers()), !field.getName().equals("NONE"));
        }
    }

    private static void members(Class<?> one) {
        TreeSet<String> open = new TreeSet<>();
        for (Method method : BiteYears.class.getMethods()) {
            open.add(method.getName());
        }
        for (Method method : one.getDeclaredMethods()) {
            Check.due(method + " takes at most seven", method.getParameterCount() <= 7, true);
            Check.due(method + " has no public one's name", Modifier.isPublic(method.getModifiers()) || !open.contains(method.getName()), true);
        }
        int fields = 0;
        for (Field field : one.getDeclaredFields()) {
            if (Modifier.isStatic(field.getModifiers())) {
                Check.due(field + " is final", Modifier.isFinal(field.getModifiers()), true);
            } else {
                fields++;
            }
        }
        Check.due("fields of " + one, fields <= 20, true);
    }

    private static void source() throws Exception {
        String source = Files.readString(SOURCE);
        Check.due("no sign beyond 127", source.chars().allMatch(c -> c < 128), true);
        String code = source.replaceAll("/\\*(?s:.*?)\\*/", "").replaceAll("//[^\n]*", "").replaceAll("\"[^\"\n]*\"", "\"\"");
        for (String no : List.of("->", "::", "\\btry\\b", "\\bcatch\\b", "\\bfinally\\b", "\\bsynchronized\\b", "\\bassert\\b", "\\bvar\\b",
            "Exact\\b", "\\bpackage\\b", "\\bhashCode\\b", "\\btoString\\b", "\\bequals\\b", "\\bdouble\\b", "\\bfloat\\b", "\\bprotected\\b", "@",
            "static \\{", "\"\" \\+", "\\+ \"\"", "\\bSystem\\.(?!arraycopy)", "\\bMath\\.(?!max|min)", "\\bInteger\\.(?!bitCount)")) {
            Matcher found = Pattern.compile(no).matcher(code);
            Check.due("places of " + no, found.find() ? found.start() : -1, -1);
        }
        Matcher imports = Pattern.compile("import ([^;]*);").matcher(code);
        while (imports.find()) {
            Check.due("an import", imports.group(1), "java.util.NoSuchElementException");
        }
    }

    private static void lengths() throws Exception {
        List<String> lines = Files.readAllLines(SOURCE);
        for (int i = 0; i < lines.size(); i++) {
            if (lines.get(i).matches(" {4}( {4})?\\w.*\\) (throws .*)?\\{|.*throws .*\\{") && !lines.get(i).contains("class ")) {
                String close = lines.get(i).replaceAll("\\S.*", "").replaceFirst("^ {12}", "    ") + "}";
                int behind = i;
                while (behind < lines.size() && !lines.get(behind).equals(close)) {
                    behind++;
                }
                Check.due("length of " + lines.get(i).trim(), behind - i <= 60, true);
            }
        }
    }
}
