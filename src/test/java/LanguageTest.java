import java.io.IOException;
import java.lang.reflect.Constructor;
import java.lang.reflect.Field;
import java.lang.reflect.Method;
import java.lang.reflect.Modifier;
import java.nio.file.Files;
import java.nio.file.Path;
import java.util.ArrayList;
import java.util.Arrays;
import java.util.List;
import java.util.Set;
import java.util.TreeSet;
import java.util.regex.Matcher;
import java.util.regex.Pattern;

/** The rules of ../shared/LANGUAGE.md that can be looked up in the class and in its text, and the document's face. */
public final class LanguageTest {
    private static final Due due = new Due();
    private static final Path SOURCE = Path.of("src/main/java/LentFiddles.java");
    private static final Path DOCUMENT = Path.of("../shared/DOC.md");
    private static final String[] FORBIDDEN = {
        "\\bthrow", "\\btry\\b", "\\bcatch\\b", "\\bsynchronized\\b", "\\bassert\\b", "->", "::", "Exact\\b",
        "\\binstanceof\\b", "\\bSystem\\.(?!arraycopy\\b)", "\\bThread\\b", "\\bRandom\\b", "\\bvar\\b",
        "\\bdouble\\b", "\\bfloat\\b", "\\bpublic\\s+(?:static\\s+)?class\\b", "\\bprotected\\b", "\\bString\\b",
        "\\bwhile\\b", "/\\s*0\\b", "\\bnull\\b"};

    public static void main(String[] args) throws IOException {
        String text = Files.readString(SOURCE);
        face();
        classes();
        words(withoutComments(text));
        lengths(text);
        due.end();
    }

    /** Rule 1: what the document prints, and nothing else that can be seen. */
    private static void face() throws IOException {
        String document = Files.readString(DOCUMENT);
        String printed = document.substring(document.indexOf("public final class LentFiddles {"));
        printed = printed.substring(0, printed.indexOf("\n}"));
        Set<String> wanted = new TreeSet<>();
        Matcher call = Pattern.compile("public (int|long) (\\w+)\\((.*?)\\);").matcher(printed);
        while (call.find()) {
            String[] parameters = call.group(3).isEmpty() ? new String[0] : call.group(3).split(", ");
            StringBuilder line = new StringBuilder(call.group(1) + " " + call.group(2));
            for (String parameter : parameters) {
                line.append(' ').append(parameter.split(" ")[0]);
            }
            wanted.add(line.toString());
        }
        Set<String> there = new TreeSet<>();
        for (Method method : LentFiddles.class.getDeclaredMethods()) {
            if (!Modifier.isPrivate(method.getModifiers())) {
                StringBuilder line = new StringBuilder(method.getReturnType() + " " + method.getName());
                for (Class<?> type : method.getParameterTypes()) {
                    line.append(' ').append(type);
                }
                there.add(line.toString());
                due.is(1, line + " is public, not static", method.getModifiers(), Modifier.PUBLIC);
            }
        }
        due.is(1, "calls beside the document's " + less(there, wanted), less(there, wanted).size(), 0);
        due.is(1, "calls that are not there " + less(wanted, there), less(wanted, there).size(), 0);
        due.is(1, "as many calls as promises but the constructor", there.size(), 49);
        for (Constructor<?> constructor : LentFiddles.class.getDeclaredConstructors()) {
            due.is(1, "constructor", constructor.getModifiers() + constructor.getParameterCount(), Modifier.PUBLIC);
        }
        Set<String> fields = new TreeSet<>();
        for (Field field : LentFiddles.class.getDeclaredFields()) {
            if (!Modifier.isPrivate(field.getModifiers())) {
                fields.add(field.getName());
            }
        }
        due.is(1, "fields " + fields,
            fields.equals(new TreeSet<>(List.of("UNKNOWN", "OUTSIDE", "STATE", "FULL", "NONE", "LOST"))) ? 1 : 0, 1);
        due.is(1, "final", Modifier.isFinal(LentFiddles.class.getModifiers()) ? 1 : 0, 1);
    }

    private static Set<String> less(Set<String> all, Set<String> these) {
        Set<String> rest = new TreeSet<>(all);
        rest.removeAll(these);
        return rest;
    }

    /** Rules 1, 2, 5, 11: classes, fields, names, parameters. */
    private static void classes() {
        List<Class<?>> all = new ArrayList<>(Arrays.asList(LentFiddles.class.getDeclaredClasses()));
        due.is(0, "classes inside: at most eleven", all.size() <= 11 ? 1 : 0, 1);
        for (Class<?> inside : all) {
            due.is(0, inside + " is private and static",
                inside.getModifiers() & (Modifier.PRIVATE | Modifier.STATIC), Modifier.PRIVATE | Modifier.STATIC);
        }
        all.add(LentFiddles.class);
        Set<String> names = new TreeSet<>();
        for (Method method : LentFiddles.class.getMethods()) {
            names.add(method.getName());
        }
        for (Class<?> one : all) {
            int fields = 0;
            for (Field field : one.getDeclaredFields()) {
                boolean isStatic = Modifier.isStatic(field.getModifiers());
                fields += isStatic ? 0 : 1;
                due.is(0, field + " is final, if it is static", isStatic && !Modifier.isFinal(field.getModifiers()) ? 1 : 0, 0);
            }
            due.is(0, one + " has at most twenty fields", fields <= 20 ? 1 : 0, 1);
            for (Method method : one.getDeclaredMethods()) {
                due.is(0, method + " has at most seven parameters", method.getParameterCount() <= 7 ? 1 : 0, 1);
                boolean isFace = Modifier.isPublic(method.getModifiers());
                due.is(0, method + " bears no public name", !isFace && names.contains(method.getName()) ? 1 : 0, 0);
            }
        }
    }

    private static String withoutComments(String text) {
        return text.replaceAll("(?s)/\\*.*?\\*/", "").replaceAll("//[^\n]*", "");
    }

    /** Rules 3, 4, 6, 12, 13: words that do not stand in the text, and objects that are made in initialisers alone. */
    private static void words(String code) {
        for (String word : FORBIDDEN) {
            Matcher found = Pattern.compile(word).matcher(code);
            due.is(0, "the text has " + word, found.find() ? 1 : 0, 0);
        }
        Matcher imported = Pattern.compile("import ([^;]*);").matcher(code);
        while (imported.find()) {
            due.is(0, imported.group(1), imported.group(1).equals("java.util.Arrays") ? 1 : 0, 1);
        }
        for (String line : code.split("\n")) {
            if (line.contains("new ")) {
                due.is(0, line, line.matches("\\s+(private )?final [\\w\\[\\]]+ \\w+ = new .*;") ? 1 : 0, 1);
            }
        }
        for (char sign : code.toCharArray()) {
            if (sign > 127) {
                due.is(0, "a sign above 127", sign, 0);
            }
        }
    }

    /** Rule 11: methods of at most sixty lines; and lines that can be read. */
    private static void lengths(String text) {
        String[] lines = text.split("\n");
        int start = -1;
        String end = "";
        for (int at = 0; at < lines.length; at++) {
            due.is(0, "line " + (at + 1) + " is of at most 120 signs", lines[at].length() <= 120 ? 1 : 0, 1);
            boolean opens = lines[at].matches("( {4}| {8})\\w.*\\) \\{") && !lines[at].matches("\\s+(if|for|switch|while).*");
            if (opens) {
                start = at;
                end = lines[at].replaceAll("\\S.*", "") + "}";
            } else if (start >= 0 && lines[at].equals(end)) {
                due.is(0, "the method at line " + (start + 1) + " is short", at - start <= 60 ? 1 : 0, 1);
                start = -1;
            }
        }
    }
}
