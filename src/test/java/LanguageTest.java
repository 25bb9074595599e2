import java.lang.reflect.Constructor;
import java.lang.reflect.Field;
import java.lang.reflect.Method;
import java.lang.reflect.Modifier;
import java.nio.file.Files;
import java.nio.file.Path;
import java.util.Arrays;
import java.util.List;
import java.util.Set;
import java.util.TreeSet;
import java.util.regex.Matcher;
import java.util.regex.Pattern;

/** The rules of ../shared/LANGUAGE.md that can be looked for, and the document's face. */
final class LanguageTest {
    private static final Path SOURCE = Path.of("src/main/java/NineLedges.java");
    private static final Path DOCUMENT = Path.of("../shared/DOC.md");

    private LanguageTest() {
    }

    public static void main(String[] args) throws Exception {
        String source = Files.readString(SOURCE);
        String code = bare(source);
        face();
        words(source, code);
        library(code);
        sizes(code);
        fields();
        Due.end("LanguageTest");
    }

    private static void ask(String what, boolean holds) {
        Due.due(what, holds ? 1 : 0, 1);
    }

    /** The source without comments, texts and signs. */
    private static String bare(String source) {
        return source.replaceAll("(?s)/\\*.*?\\*/", "").replaceAll("//[^\n]*", "")
            .replaceAll("'(\\\\.|[^'\\\\])'", "'0'").replaceAll("\"[^\"\n]*\"", "\"\"");
    }

    private static void face() throws Exception {
        Set<String> want = new TreeSet<>();
        Matcher m = Pattern.compile("    public int (\\w+)\\(([^)]*)\\);").matcher(Files.readString(DOCUMENT));
        while (m.find()) {
            want.add(m.group(1) + "(" + m.group(2).replaceAll("(\\w+) \\w+", "$1") + ")");
        }
        ask("the document's face is read", want.size() == 35);
        Set<String> got = new TreeSet<>();
        Set<String> hidden = new TreeSet<>();
        for (Method method : NineLedges.class.getDeclaredMethods()) {
            if (Modifier.isPublic(method.getModifiers())) {
                StringBuilder s = new StringBuilder();
                for (Class<?> c : method.getParameterTypes()) {
                    s.append(s.length() > 0 ? ", " : "").append(c.getSimpleName());
                }
                got.add(method.getName() + "(" + s + ")");
                ask(method.getName() + " answers an int", method.getReturnType() == int.class);
            } else {
                ask(method.getName() + " is private", Modifier.isPrivate(method.getModifiers()));
                hidden.add(method.getName());
            }
        }
        ask("the face is the document's: " + got, got.equals(want));
        for (String name : hidden) {
            ask("no private method is named as a public one: " + name, want.stream().noneMatch(w -> w.startsWith(name + "(")));
        }
        Constructor<?>[] made = NineLedges.class.getDeclaredConstructors();
        ask("one constructor", made.length == 1 && made[0].getParameterCount() == 0
            && Modifier.isPublic(made[0].getModifiers()));
        ask("final", Modifier.isFinal(NineLedges.class.getModifiers()));
    }

    private static void fields() {
        Class<?>[] inside = NineLedges.class.getDeclaredClasses();
        ask("some twelve classes", inside.length + 1 <= 12);
        check(NineLedges.class);
        for (Class<?> c : inside) {
            ask(c + " is static", Modifier.isStatic(c.getModifiers()));
            ask(c + " isn't public", !Modifier.isPublic(c.getModifiers()) && !Modifier.isProtected(c.getModifiers()));
            check(c);
        }
    }

    private static void check(Class<?> c) {
        int own = 0;
        for (Field f : c.getDeclaredFields()) {
            ask(f + " is private", Modifier.isPrivate(f.getModifiers()));
            if (Modifier.isStatic(f.getModifiers())) {
                ask(f + " is final", Modifier.isFinal(f.getModifiers()));
            } else {
                own++;
            }
        }
        ask(c + " has some twenty fields", own <= 20);
        for (Method m : c.getDeclaredMethods()) {
            ask(m + " takes at most seven", m.getParameterCount() <= 7);
            ask(m + " isn't toString or its like", !List.of("toString", "equals", "hashCode").contains(m.getName()));
        }
    }

    private static void words(String source, String code) {
        for (String word : List.of("throw", "throws", "try", "catch", "finally", "synchronized", "assert", "import",
            "package", "native", "volatile", "var", "yield", "Object", "Exception")) {
            ask("no " + word, !Pattern.compile("\\b" + word + "\\b").matcher(code).find());
        }
        for (String sign : List.of("->", "::", "@", "...", "<>")) {
            ask("no " + sign, !code.contains(sign));
        }
        ask("signs 10, 32 to 126 alone", source.chars().allMatch(c -> c == 10 || c >= 32 && c < 127));
        ask("no joining of texts by +", !Pattern.compile("\"\\s*\\+|\\+\\s*\"").matcher(code).find());
        ask("no == on a text", !Pattern.compile("\"\\s*[!=]=|[!=]=\\s*\"").matcher(code).find());
        ask("no static block", !Pattern.compile("static\\s*\\{").matcher(code).find());
    }

    private static void library(String code) {
        Set<String> allowed = Set.of("Math.max", "Math.min", "System.arraycopy");
        Matcher m = Pattern.compile("\\b(Math|System|Integer|Long|Arrays|List|Character|String)\\.(\\w+)").matcher(code);
        while (m.find()) {
            ask(m.group() + " is in the library", allowed.contains(m.group()));
        }
        ask("whole numbers alone", !Pattern.compile("\\b(double|float)\\b").matcher(code).find());
    }

    /** Methods stay short: from a line that opens one to the line that closes it, by their indents. */
    private static void sizes(String code) {
        String[] lines = code.split("\n", -1);
        for (int i = 0; i < lines.length; i++) {
            if (lines[i].matches("(    |        )[\\w\\[\\]<> ]+\\(.*\\) \\{") && !lines[i].contains(" new ")) {
                String indent = lines[i].replaceAll("\\S.*", "");
                int end = i;
                while (end < lines.length && !lines[end].equals(indent + "}")) {
                    end++;
                }
                ask("short: " + lines[i].trim(), end - i < 60);
            }
        }
        ask("no line is longer than 120", Arrays.stream(lines).allMatch(l -> l.length() <= 120));
    }
}
