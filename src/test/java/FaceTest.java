import java.io.IOException;
import java.lang.reflect.Field;
import java.lang.reflect.Method;
import java.lang.reflect.Modifier;
import java.nio.file.Files;
import java.nio.file.Path;
import java.util.ArrayList;
import java.util.List;
import java.util.TreeSet;
import java.util.regex.Matcher;
import java.util.regex.Pattern;

/**
 * The face of the class is that of ../shared/DOC.md, no more and no less, and its source keeps to what a reader of
 * lines can see of ../shared/LANGUAGE.md. Run it from the project's folder.
 */
public final class FaceTest {
    private static final Check check = new Check("FaceTest");
    private static final Path DOCUMENT = Path.of("..", "shared", "DOC.md");
    private static final Path SOURCE = Path.of("src", "main", "java", "ThirteenthDay.java");

    public static void main(String[] args) throws IOException {
        face(Files.readString(DOCUMENT));
        classesInside();
        noPrivateMethodBearsThePublicName();
        source(Files.readString(SOURCE));
        check.end();
    }

    private static void face(String document) {
        TreeSet<String> due = new TreeSet<>();
        Matcher method = Pattern.compile("^    public (\\w+) (\\w+)\\((.*?)\\)(?: throws (.*))?;$", Pattern.MULTILINE)
                .matcher(document);
        while (method.find()) {
            StringBuilder types = new StringBuilder();
            for (String parameter : method.group(3).split(", ")) {
                types.append(parameter.isEmpty() ? "" : parameter.split(" ")[0] + ",");
            }
            String thrown = method.group(4) == null ? "" : method.group(4).replace(", ", ",");
            due.add(method.group(1) + " " + method.group(2) + "(" + types + ") " + thrown);
        }
        TreeSet<String> got = new TreeSet<>();
        for (Method one : ThirteenthDay.class.getDeclaredMethods()) {
            if (Modifier.isPrivate(one.getModifiers())) {
                continue;
            }
            check.is("public, not static: " + one, Modifier.PUBLIC, one.getModifiers());
            StringBuilder types = new StringBuilder();
            for (Class<?> type : one.getParameterTypes()) {
                types.append(type.getSimpleName()).append(',');
            }
            List<String> thrown = new ArrayList<>();
            for (Class<?> type : one.getExceptionTypes()) {
                thrown.add(type.getSimpleName());
            }
            got.add(one.getReturnType().getSimpleName() + " " + one.getName() + "(" + types + ") "
                    + String.join(",", thrown));
        }
        check.is("methods of the face", 38, due.size());
        check.is("the face", due.toString(), got.toString());
        check.is("a public final class", Modifier.PUBLIC | Modifier.FINAL, ThirteenthDay.class.getModifiers());
        check.is("one constructor", 1, ThirteenthDay.class.getDeclaredConstructors().length);
        check.is("without parameters", 0, ThirteenthDay.class.getDeclaredConstructors()[0].getParameterCount());
        check.is("that is public", Modifier.PUBLIC, ThirteenthDay.class.getDeclaredConstructors()[0].getModifiers());
        for (Field field : ThirteenthDay.class.getDeclaredFields()) {
            check.is("private: " + field, true, Modifier.isPrivate(field.getModifiers()));
        }
    }

    /** Rules 1, 5 and 11: what is inside is static, its static fields are final, and there is not too much of it. */
    private static void classesInside() {
        Class<?>[] inside = ThirteenthDay.class.getDeclaredClasses();
        check.is("some twelve classes at most", true, inside.length + 1 <= 12);
        for (Class<?> one : inside) {
            check.is("static: " + one, true, Modifier.isStatic(one.getModifiers()));
            check.is("not public: " + one, false, Modifier.isPublic(one.getModifiers()));
            fieldsOf(one);
        }
        fieldsOf(ThirteenthDay.class);
    }

    private static void fieldsOf(Class<?> one) {
        int fields = 0;
        for (Field field : one.getDeclaredFields()) {
            boolean isStatic = Modifier.isStatic(field.getModifiers());
            check.is("static fields are final: " + field, true, !isStatic || Modifier.isFinal(field.getModifiers()));
            fields += isStatic ? 0 : 1;
        }
        check.is("some twenty fields at most: " + one, true, fields <= 20);
        for (Method method : one.getDeclaredMethods()) {
            check.is("seven parameters at most: " + method, true, method.getParameterCount() <= 7);
        }
    }

    private static void noPrivateMethodBearsThePublicName() {
        TreeSet<String> names = new TreeSet<>();
        for (Method method : ThirteenthDay.class.getMethods()) {
            names.add(method.getName());
        }
        for (Method method : ThirteenthDay.class.getDeclaredMethods()) {
            boolean isPrivate = Modifier.isPrivate(method.getModifiers());
            check.is("its own name: " + method, false, isPrivate && names.contains(method.getName()));
        }
        for (Class<?> one : ThirteenthDay.class.getDeclaredClasses()) {
            for (Method method : one.getDeclaredMethods()) {
                boolean isPrivate = Modifier.isPrivate(method.getModifiers());
                check.is("its own name: " + method, false, isPrivate && names.contains(method.getName()));
            }
        }
    }

    /** What no reader of lines has to understand: words that the rules leave out, and what may be thrown. */
    private static void source(String text) {
        String code = text.replaceAll("(?s)/\\*.*?\\*/", "").replaceAll("//[^\n]*", "");
        String[] banned = {"\\bpackage\\b", "::", "\\bfinally\\b", "\\bassert\\b", "\\bsynchronized\\b",
            "\\bwhile \\(true\\)", "\\bfor \\(;;", "\"\\s*\\+", "\\+\\s*\"", "\\bstatic \\{", "Exact\\(",
            "\\bhashCode\\b", "\\bSystem\\.(?!arraycopy\\()", "\\bimport (?!java\\.util\\.)",
            "\\bcatch \\((Array|NullPointer|ClassCast|NegativeArray|Throwable|Error|Exception)"};
        for (String one : banned) {
            check.is("in the source: " + one, false, Pattern.compile(one).matcher(code).find());
        }
        String allowed = "(IllegalState|IllegalArgument|IndexOutOfBounds|Arithmetic|UnsupportedOperation|NoSuchElement"
                + "|Runtime)Exception";
        Matcher thrown = Pattern.compile("\\bthrow (?:new (\\w+))?").matcher(code);
        while (thrown.find()) {
            check.is("thrown: " + thrown.group(), true, thrown.group(1) != null && thrown.group(1).matches(allowed));
        }
        methodsAreShort(text.split("\n"));
    }

    /** Of all that stands in braces classes alone are longer than some sixty lines. */
    private static void methodsAreShort(String[] lines) {
        int[] begun = new int[lines.length];
        int depth = 0;
        for (int k = 0; k < lines.length && depth >= 0; k++) {
            for (char sign : lines[k].replaceAll("\"[^\"]*\"|'.'", "").toCharArray()) {
                if (sign == '{') {
                    begun[depth] = k;
                    depth++;
                } else if (sign == '}' && depth > 0) {
                    depth--;
                    String opened = lines[begun[depth]];
                    boolean isClass = opened.matches(".* (class|interface|enum|record) .*");
                    check.is("some sixty lines: " + opened.trim(), true, isClass || k - begun[depth] <= 64);
                }
            }
        }
        check.is("braces", 0, depth);
    }
}
