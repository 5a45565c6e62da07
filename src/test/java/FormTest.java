import java.io.IOException;
import java.lang.reflect.Constructor;
import java.lang.reflect.Field;
import java.lang.reflect.Method;
import java.lang.reflect.Modifier;
import java.nio.file.Files;
import java.nio.file.Path;
import java.util.ArrayList;
import java.util.List;
import java.util.Set;
import java.util.regex.Matcher;
import java.util.regex.Pattern;

/** The Java of the class keeps to LANGUAGE.md, as far as its text and its members tell; FaceTest tells of the rule 1. */
public final class FormTest {
    private static final Path SOURCE = Path.of("src/main/java/OrganCensus.java");
    private static final int MOST_LINES = 60;
    private static final int MOST_PARAMETERS = 7;
    private static final int MOST_CLASSES = 12;
    private static final int MOST_FIELDS = 20;

    private static final Set<String> IMPORTS = Set.of("java.util.Arrays", "java.util.ArrayList", "java.util.List",
        "java.util.Iterator", "java.util.NoSuchElementException");
    private static final Set<String> CALLS = Set.of("System.arraycopy", "Arrays.copyOf", "Arrays.copyOfRange", "Arrays.fill",
        "Math.abs", "Math.max", "Math.min", "Math.floorDiv", "Math.floorMod");
    private static final Set<String> THROWN = Set.of("IllegalStateException", "IllegalArgumentException",
        "IndexOutOfBoundsException", "ArithmeticException", "UnsupportedOperationException", "NoSuchElementException", "RuntimeException");
    private static final Set<String> TYPES = Set.of("void", "int", "long", "short", "byte", "char", "boolean", "double", "float",
        "java.lang.String", "java.lang.StringBuilder", "java.util.ArrayList", "java.util.List");

    public static void main(String[] args) throws IOException {
        String text = withoutCommentsAndTexts(Files.readString(SOURCE));
        oneClassWithoutPackage(text);
        noWordsOutsideTheRules(text);
        libraryCalls(text);
        thrown(text);
        methodLengths(text);
        objectsOfTheConstructorAlone(text);
        members();
        Check.end("FormTest");
    }

    private static String withoutCommentsAndTexts(String source) {
        Check.isTrue("only signs 1 to 127", source.chars().allMatch(sign -> sign > 0 && sign < 128));
        return source.replaceAll("(?s)/\\*.*?\\*/", "").replaceAll("\"[^\"\n]*\"", "\"\"").replaceAll("//[^\n]*", "");
    }

    private static void oneClassWithoutPackage(String text) {
        Check.isTrue("no package line", !text.contains("package "));
        Matcher imported = Pattern.compile("import ([^;]*);").matcher(text);
        while (imported.find()) {
            Check.isTrue("import " + imported.group(1), IMPORTS.contains(imported.group(1)));
        }
        Matcher outside = Pattern.compile("(?m)^(?! )[a-z ]*\\b(class|interface|enum|record) \\w+").matcher(text);
        int count = 0;
        while (outside.find()) {
            count++;
        }
        Check.same("classes that are not inside another", count, 1);
    }

    /** Rules 2, 5, 6, 10 and 13. A catch could keep to them too, but the class needs none. */
    private static void noWordsOutsideTheRules(String text) {
        String[] words = {"->", "::", "\\bcatch\\b", "\\btry\\b", "\\bfinally\\b", "\\bsynchronized\\b", "\\bassert\\b", "\\bvolatile\\b",
            "\\bnative\\b", "\\btransient\\b", "\\bstatic \\{", "\\bhashCode\\b", "Exact\\(", "\"\" \\+", "\\+ \"\"",
            "\\bObject\\b", "\\bThread\\b", "\\bRandom\\b", "\\bvar\\b", "\\bwhile \\(true\\)", "for \\(;;"};
        for (String word : words) {
            Check.isTrue("no " + word, !Pattern.compile(word).matcher(text).find());
        }
    }

    /** Rule 4. */
    private static void libraryCalls(String text) {
        Matcher call = Pattern.compile("\\b([A-Z]\\w*\\.[a-z]\\w*)\\(").matcher(text);
        int calls = 0;
        while (call.find()) {
            calls++;
            Check.isTrue(call.group(1) + " is of the library's part", CALLS.contains(call.group(1)));
        }
        Check.isTrue("calls of the library", calls > 0);
    }

    /** Rule 6. */
    private static void thrown(String text) {
        Matcher each = Pattern.compile("\\bthrow\\b([^;]*);").matcher(text);
        Pattern due = Pattern.compile(" new (\\w+)\\((\"\")?\\)");
        int count = 0;
        while (each.find()) {
            count++;
            Matcher made = due.matcher(each.group(1));
            Check.isTrue("throw" + each.group(1), made.matches() && THROWN.contains(made.group(1)));
        }
        Check.isTrue("throws", count > 0);
    }

    /** Rule 11; a method begins and ends with a line of the same depth. */
    private static void methodLengths(String text) {
        String[] lines = text.split("\n");
        Pattern head = Pattern.compile("( {4}| {8})(?! )[\\w\\[\\]<>, ]+\\([^;]*\\)[\\w, ]*\\{");
        int methods = 0;
        for (int i = 0; i < lines.length; i++) {
            Matcher found = head.matcher(lines[i]);
            if (found.matches() && !lines[i].matches(" *(if|for|while|switch|else)\\b.*")) {
                methods++;
                int end = i;
                while (end < lines.length && !lines[end].equals(found.group(1) + "}")) {
                    end++;
                }
                Check.isTrue("lines of" + lines[i] + " are few enough: " + (end - i + 1), end - i + 1 <= MOST_LINES);
            }
        }
        Check.isTrue("methods", methods > 20);
    }

    /** Rule 12, more narrowly than it asks: what a call makes stays in the room for the whole run, so none makes anything. */
    private static void objectsOfTheConstructorAlone(String text) {
        String calls = text.replaceAll("(?s)\n( +)(?:public )?[A-Z]\\w*\\(\\) \\{\n.*?\n\\1\\}", "")
            .replaceAll("(?m)^ +(private )?final [\\w\\[\\]]+ \\w+ = new .*$", "").replace("throw new ", "throw ");
        Check.isTrue("without its constructors the text is shorter", calls.length() < text.length());
        for (String line : calls.split("\n")) {
            Check.isTrue("nothing is made in" + line, !line.matches(".*(\\bnew\\b|\\.clone\\(|copyOf|\\.values\\(|= \\{|List\\.of).*"));
        }
    }

    /** Rules 3, 5 and 11. */
    private static void members() {
        List<Class<?>> all = new ArrayList<>(List.of(OrganCensus.class.getDeclaredClasses()));
        all.add(OrganCensus.class);
        Check.isTrue("classes: " + all.size(), all.size() <= MOST_CLASSES);
        for (Class<?> type : all) {
            int fields = 0;
            for (Field field : type.getDeclaredFields()) {
                fields += Modifier.isStatic(field.getModifiers()) ? 0 : 1;
                checkType(field.toString(), field.getType(), all);
            }
            Check.isTrue(type + ", fields: " + fields, fields <= MOST_FIELDS);
            for (Method method : type.getDeclaredMethods()) {
                Check.isTrue(method + ", parameters", method.getParameterCount() <= MOST_PARAMETERS);
                checkType(method.toString(), method.getReturnType(), all);
                for (Class<?> parameter : method.getParameterTypes()) {
                    checkType(method.toString(), parameter, all);
                }
            }
            for (Constructor<?> maker : type.getDeclaredConstructors()) {
                Check.same(maker + ", exceptions", maker.getExceptionTypes().length, 0);
            }
        }
    }

    private static void checkType(String where, Class<?> type, List<Class<?>> own) {
        Class<?> part = type.isArray() ? type.getComponentType() : type;
        boolean isNumbers = part.isArray() && part.getComponentType().isPrimitive();
        Check.isTrue(where + ": its type", isNumbers || TYPES.contains(part.getName()) || own.contains(part));
    }
}
