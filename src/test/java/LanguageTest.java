import java.lang.reflect.Field;
import java.lang.reflect.Member;
import java.lang.reflect.Method;
import java.lang.reflect.Modifier;
import java.nio.charset.StandardCharsets;
import java.nio.file.Files;
import java.nio.file.Paths;
import java.util.Set;
import java.util.TreeSet;
import java.util.regex.Matcher;
import java.util.regex.Pattern;

/** The class keeps to the face in ../shared/DOC.md and to what of ../shared/LANGUAGE.md can be looked at. */
public final class LanguageTest {
    public static void main(String[] args) throws Exception {
        String source = read("src/main/java/ScopeWarden.java");
        face();
        order(source);
        members();
        words(bare(source));
        lengths(source);
        Due.end();
    }

    private static String read(String file) throws Exception {
        return new String(Files.readAllBytes(Paths.get(file)), StandardCharsets.ISO_8859_1);
    }

    /** Rule 1: what is public, and nothing else that isn't private. */
    private static void face() throws Exception {
        String doc = read("../shared/DOC.md");
        String block = doc.substring(doc.indexOf("```java") + 7);
        block = block.substring(0, block.indexOf("```"));
        Set<String> due = new TreeSet<>();
        Matcher m = Pattern.compile("public (\\w+) (\\w+)\\(([^)]*)\\);").matcher(block);
        while (m.find()) {
            due.add(m.group(1) + " " + m.group(2) + "(" + m.group(3).replaceAll("(\\w+) \\w+", "$1") + ")");
        }
        Due.is("methods of the document", due.size(), 44);
        Set<String> found = new TreeSet<>();
        for (Method method : ScopeWarden.class.getDeclaredMethods()) {
            if (!Modifier.isPrivate(method.getModifiers()) && !method.isSynthetic()) {
                StringBuilder b = new StringBuilder();
                for (Class<?> type : method.getParameterTypes()) {
                    b.append(b.length() == 0 ? "" : ", ").append(type);
                }
                Due.isTrue(method + " is public, and not static", method.getModifiers() == Modifier.PUBLIC);
                found.add(method.getReturnType() + " " + method.getName() + "(" + b + ")");
            }
        }
        Due.is("the methods", found.toString(), due.toString());
        Due.is("constructors", ScopeWarden.class.getDeclaredConstructors().length, 1);
        Due.isTrue("the constructor is public", Modifier.isPublic(ScopeWarden.class.getConstructor().getModifiers()));
        Due.isTrue("the class is public and final",
                ScopeWarden.class.getModifiers() == (Modifier.PUBLIC | Modifier.FINAL));
        Set<String> constants = new TreeSet<>();
        for (Field field : ScopeWarden.class.getDeclaredFields()) {
            if (!Modifier.isPrivate(field.getModifiers()) && !field.isSynthetic()) {
                constants.add(Modifier.toString(field.getModifiers()) + " " + field.getType() + " " + field.getName());
            }
        }
        Due.is("the constants", constants.toString(), "[public static final int BAD, public static final int FULL, "
                + "public static final int NONE, public static final int STATE, public static final long NO]");
    }

    /** The document's calls stand in its order, with the names that it gives, behind the heads of their parts. */
    private static void order(String source) throws Exception {
        String doc = read("../shared/DOC.md");
        String block = doc.substring(doc.indexOf("```java") + 7);
        StringBuilder due = new StringBuilder();
        Matcher m = Pattern.compile("public \\w+ (\\w+)\\([^)]*\\)(?=;)").matcher(block.substring(0, block.indexOf("```")));
        while (m.find()) {
            Matcher head = Pattern.compile("Ahead of the calls `" + m.group(1) + "`[^:]*: (----[^.]*)\\.").matcher(doc);
            due.append(head.find() ? head.group(1) + "\n" : "").append(m.group()).append('\n');
        }
        StringBuilder found = new StringBuilder();
        m = Pattern.compile("(?m)^    // (----.*)|^    (public \\w+ \\w+\\(.*\\)) \\{").matcher(source);
        while (m.find()) {
            found.append(m.group(1) == null ? m.group(2) : m.group(1)).append('\n');
        }
        Due.is("the calls in their order", found.toString(), due.toString());
        Due.is("lines of it", due.toString().split("\n").length, 44 + 4);
    }

    /** Rules 1, 3, 5 and 11, of the class and the classes inside it. */
    private static void members() {
        Set<String> names = new TreeSet<>();
        for (Method method : ScopeWarden.class.getDeclaredMethods()) {
            if (Modifier.isPublic(method.getModifiers())) {
                names.add(method.getName());
            }
        }
        Class<?>[] inside = ScopeWarden.class.getDeclaredClasses();
        Due.isTrue("twelve classes at most", inside.length + 1 <= 12);
        membersOf(ScopeWarden.class, names);
        for (Class<?> c : inside) {
            int m = c.getModifiers();
            Due.isTrue(c + " is static, and not public", Modifier.isStatic(m) && !Modifier.isPublic(m));
            membersOf(c, names);
        }
    }

    private static void membersOf(Class<?> c, Set<String> names) {
        int fields = 0;
        for (Field field : c.getDeclaredFields()) {
            int m = field.getModifiers();
            if (Modifier.isStatic(m)) {
                Class<?> type = field.getType();
                Due.isTrue(field + " is a constant", Modifier.isFinal(m) && (type == int.class || type == long.class));
            } else {
                fields++;
                Class<?> type = field.getType().isArray() ? field.getType().getComponentType() : field.getType();
                Due.isTrue(field + " has a type of rule 3",
                        type.isPrimitive() || type.getName().startsWith("ScopeWarden"));
            }
        }
        Due.isTrue(c + " has twenty fields at most", fields <= 20);
        for (Method method : c.getDeclaredMethods()) {
            Due.isTrue(method + " has seven parameters at most", method.getParameterCount() <= 7);
            boolean isFace = c == ScopeWarden.class && Modifier.isPublic(((Member) method).getModifiers());
            Due.isTrue(method + " has no name of a public one", isFace || !names.contains(method.getName()));
        }
    }

    /** The source without comments, and with nothing in its texts and signs. */
    private static String bare(String source) {
        return source.replaceAll("(?s)/\\*.*?\\*/", " ").replaceAll("//[^\n]*", " ")
                .replaceAll("\"(\\\\.|[^\"\\\\])*\"", "\"\"").replaceAll("'(\\\\.|[^'\\\\])'", "' '");
    }

    /** Rules 2 to 6, 10 and 13: nothing that they forbid, nor what they allow and the program doesn't need. */
    private static void words(String bare) {
        String[] never = {"import", "package", "try", "catch", "finally", "throw", "throws", "synchronized", "assert",
            "record", "enum", "interface", "volatile", "transient", "native", "strictfp", "equals", "hashCode",
            "toString", "Object", "Thread", "Exact", "HashMap", "String", "goto", "sealed", "yield", "var", "float",
            "double"};
        for (String word : never) {
            Due.isTrue("no " + word, !Pattern.compile("\\b" + word + "\\b").matcher(bare).find());
        }
        for (String sign : new String[] {"->", "::", "@", "...", ">>>", "\"", "[][]"}) {
            Due.isTrue("no " + sign, !bare.contains(sign));
        }
        Due.isTrue("no static block", !Pattern.compile("static\\s*\\{").matcher(bare).find());
        Matcher library = Pattern.compile("\\b(java|javax|System|Math|Arrays|Integer|Long|List)\\b\\s*\\.\\s*(\\w+)")
                .matcher(bare);
        while (library.find()) {
            String used = library.group(1) + "." + library.group(2);
            boolean isListed = used.equals("System.arraycopy") || used.equals("Long.MIN_VALUE");
            Due.isTrue(used + " is of the library that is listed", isListed);
        }
        for (int i = 0; i < bare.length(); i++) {
            if (bare.charAt(i) > 126) {
                Due.isTrue("sign " + (int) bare.charAt(i) + " is none of the program's", false);
            }
        }
    }

    /** Rule 11: a method has sixty lines at most. */
    private static void lengths(String source) {
        String[] lines = source.split("\n");
        Pattern head = Pattern.compile("( {4}| {8})(\\w[\\w\\[\\]<> ]*)\\([^;=]*\\) \\{");
        int many = 0;
        for (int i = 0; i < lines.length; i++) {
            Matcher m = head.matcher(lines[i]);
            if (m.matches()) {
                int end = i;
                while (!lines[end].equals(m.group(1) + "}")) {
                    end++;
                }
                many++;
                Due.isTrue(lines[i].trim() + " has " + (end - i + 1) + " lines", end - i + 1 <= 60);
                i = end;
            }
        }
        Due.isTrue("methods were found", many > 100);
    }
}
