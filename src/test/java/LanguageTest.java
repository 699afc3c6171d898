import java.io.IOException;
import java.lang.reflect.Constructor;
import java.lang.reflect.Field;
import java.lang.reflect.Method;
import java.lang.reflect.Modifier;
import java.nio.file.Files;
import java.nio.file.Path;
import java.util.ArrayList;
import java.util.Arrays;
import java.util.List;
import java.util.Set;
import java.util.TreeSet;
import java.util.regex.Matcher;
import java.util.regex.Pattern;

/** The face, as ../shared/DOC.md writes it, and the rules of LANGUAGE.md that can be looked up. */
public final class LanguageTest {
    private static final Expect E = new Expect();
    private static final Pattern CALL =
        Pattern.compile("    public (int|long|boolean) (\\w+)\\(([^)]*)\\)( throws \\w+)?;");

    public static void main(String[] args) throws IOException {
        Path root = Path.of(args.length > 0 ? args[0] : ".");
        face(Files.readString(root.resolve("../shared/DOC.md")));
        classesInside();
        source(Files.readString(root.resolve("src/main/java/ShingledDisk.java")));
        E.end("LanguageTest");
    }

    private static void face(String doc) {
        Set<String> due = new TreeSet<>();
        Matcher m = CALL.matcher(doc);
        while (m.find()) {
            String types = m.group(3).replaceAll("(\\w+) \\w+", "$1").replace(" ", "");
            due.add(m.group(1) + " " + m.group(2) + "(" + types + ")");
        }
        Set<String> got = new TreeSet<>();
        for (Method method : ShingledDisk.class.getDeclaredMethods()) {
            if (!Modifier.isPrivate(method.getModifiers()) && !method.isSynthetic()) {
                List<String> types = new ArrayList<>();
                for (Class<?> type : method.getParameterTypes()) {
                    types.add(type.getSimpleName());
                }
                got.add(method.getReturnType().getSimpleName() + " " + method.getName() + "("
                    + String.join(",", types) + ")");
                E.yes("public " + method, Modifier.isPublic(method.getModifiers()));
                E.no("static " + method, Modifier.isStatic(method.getModifiers()));
            }
        }
        E.same("calls in the document", due.size(), 52);
        E.yes("the face is " + got + ", due is " + due, got.equals(due));
        E.yes("public, final", (ShingledDisk.class.getModifiers() & (Modifier.PUBLIC | Modifier.FINAL))
            == (Modifier.PUBLIC | Modifier.FINAL));
        Constructor<?>[] constructors = ShingledDisk.class.getDeclaredConstructors();
        E.same("constructors", constructors.length, 1);
        E.same("the constructor's parameters", constructors[0].getParameterCount(), 0);
        E.yes("a public constructor", Modifier.isPublic(constructors[0].getModifiers()));
        for (Field field : ShingledDisk.class.getDeclaredFields()) {
            E.yes("private: " + field,
                field.getName().equals("NONE") || Modifier.isPrivate(field.getModifiers()));
        }
        E.same("NONE", ShingledDisk.NONE, -1);
    }

    private static void classesInside() {
        Set<String> faceNames = new TreeSet<>();
        for (Method method : ShingledDisk.class.getDeclaredMethods()) {
            if (Modifier.isPublic(method.getModifiers())) {
                faceNames.add(method.getName());
            }
        }
        List<Class<?>> all = new ArrayList<>(Arrays.asList(ShingledDisk.class.getDeclaredClasses()));
        E.yes("at most twelve classes", all.size() < 12);
        for (Class<?> c : all) {
            E.yes("static: " + c, Modifier.isStatic(c.getModifiers()));
            E.yes("private: " + c, Modifier.isPrivate(c.getModifiers()));
            for (Method method : c.getDeclaredMethods()) {
                E.no("no other call by the name " + method, faceNames.contains(method.getName()));
            }
        }
        for (Method method : ShingledDisk.class.getDeclaredMethods()) {
            E.yes("no private call by the name " + method,
                Modifier.isPublic(method.getModifiers()) || !faceNames.contains(method.getName()));
        }
        all.add(ShingledDisk.class);
        for (Class<?> c : all) {
            int fields = 0;
            for (Field field : c.getDeclaredFields()) {
                if (Modifier.isStatic(field.getModifiers())) {
                    E.yes("final: " + field, Modifier.isFinal(field.getModifiers()));
                    E.yes("a number: " + field, field.getType() == int.class);
                } else {
                    fields++;
                }
            }
            E.yes("some twenty fields: " + c, fields <= 20);
            for (Method method : c.getDeclaredMethods()) {
                E.yes("at most seven parameters: " + method, method.getParameterCount() <= 7);
            }
        }
    }

    private static void source(String text) {
        String code = text.replaceAll("(?s)/\\*.*?\\*/", "").replaceAll("//[^\n]*", "");
        String[] ruledOut = {"->", "::", "\\bfinally\\b", "\\bsynchronized\\b", "\\bassert\\b", "\\btry\\b",
            "\\bcatch\\b", "\\bpackage\\b", "Exact\\(", "\\binstanceof\\b", "\\bdouble\\b", "\\bfloat\\b",
            "\\bvar\\b", "\\bThread\\b", "\\bRandom\\b", "System\\.(?!arraycopy)", "\" *\\+", "\\+ *\"",
            "@"};
        for (String pattern : ruledOut) {
            E.no("in the source: " + pattern, Pattern.compile(pattern).matcher(code).find());
        }
        Matcher imports = Pattern.compile("import [^;]*;").matcher(code);
        while (imports.find()) {
            E.yes(imports.group(), imports.group().equals("import java.util.NoSuchElementException;"));
        }
        Matcher thrown = Pattern.compile("throw [^;]*;").matcher(code);
        while (thrown.find()) {
            E.yes(thrown.group(), thrown.group().equals("throw new NoSuchElementException();"));
        }
        for (char sign : text.toCharArray()) {
            if (sign > 126) {
                E.yes("signs up to 126 alone: " + (int) sign, false);
            }
        }
        methodLengths(text.split("\n"));
    }

    private static void methodLengths(String[] lines) {
        Pattern head = Pattern.compile("( {4}| {8})(?!class)[a-z][\\w\\[\\] ]*\\([^;]*\\{");
        int longest = 0;
        for (int i = 0; i < lines.length; i++) {
            Matcher m = head.matcher(lines[i]);
            if (m.matches()) {
                int behind = i;
                while (behind < lines.length - 1 && !lines[behind].equals(m.group(1) + "}")) {
                    behind++;
                }
                longest = Math.max(longest, behind - i + 1);
            }
        }
        E.yes("methods were found", longest > 20);
        E.yes("some sixty lines at most: " + longest, longest <= 60);
    }
}
