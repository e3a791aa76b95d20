import java.io.IOException;
import java.lang.reflect.Constructor;
import java.lang.reflect.Field;
import java.lang.reflect.Method;
import java.lang.reflect.Modifier;
import java.nio.charset.StandardCharsets;
import java.nio.file.Files;
import java.nio.file.Paths;
import java.util.ArrayList;
import java.util.Arrays;
import java.util.Collections;
import java.util.HashSet;
import java.util.List;
import java.util.Set;
import java.util.regex.Matcher;
import java.util.regex.Pattern;

/** Rules 1, 2, 4, 5, 6, 11 and 12 of LANGUAGE.md, as far as the class file or the text shows them. */
public final class LanguageTest {
    private static final List<Class<?>> CLASSES = new ArrayList<>();

    public static void main(String[] args) throws IOException {
        CLASSES.add(ErrorNames.class);
        Collections.addAll(CLASSES, ErrorNames.class.getDeclaredClasses());
        String text = new String(Files.readAllBytes(Paths.get("src/main/java/ErrorNames.java")),
            StandardCharsets.ISO_8859_1);
        String code = withoutRemarks(text);
        classesInside();
        names();
        staticFields();
        sizes();
        constructors();
        words(code);
        exceptions(code);
        objects(code);
        methodLengths(code);
        Bench.end("LanguageTest");
    }

    /** Neither comments nor what stands in quotes. */
    private static String withoutRemarks(String text) {
        return text.replaceAll("(?s)/\\*.*?\\*/", "").replaceAll("//[^\n]*", "").replaceAll("\"[^\"\n]*\"", "\"\"");
    }

    private static void classesInside() {
        Bench.says("rule 1, classes inside are private or package-visible and static");
        for (Class<?> inside : ErrorNames.class.getDeclaredClasses()) {
            int modifiers = inside.getModifiers();
            Bench.due(inside.getName(), Modifier.isStatic(modifiers) && !Modifier.isPublic(modifiers)
                && !Modifier.isProtected(modifiers), true);
        }
    }

    private static void names() {
        Bench.says("rule 1, no private method bears the name of a public one");
        Set<String> open = new HashSet<>();
        for (Method method : ErrorNames.class.getMethods()) {
            open.add(method.getName());
        }
        for (Class<?> each : CLASSES) {
            for (Method method : each.getDeclaredMethods()) {
                if (!Modifier.isPublic(method.getModifiers())) {
                    Bench.due(each.getName() + "." + method.getName(), open.contains(method.getName()), false);
                }
            }
        }
    }

    private static void staticFields() {
        Bench.says("rule 5, static fields are final constants, or arrays");
        for (Class<?> each : CLASSES) {
            for (Field field : each.getDeclaredFields()) {
                if (Modifier.isStatic(field.getModifiers())) {
                    Bench.due(field.toString(), Modifier.isFinal(field.getModifiers())
                        && (field.getType() == int.class || field.getType() == int[].class), true);
                }
            }
        }
    }

    private static void sizes() {
        Bench.says("rule 11, seven parameters, twelve classes, twenty fields");
        Bench.due("classes", CLASSES.size() <= 12, true);
        for (Class<?> each : CLASSES) {
            int fields = 0;
            for (Field field : each.getDeclaredFields()) {
                fields += Modifier.isStatic(field.getModifiers()) ? 0 : 1;
            }
            Bench.due(each.getName() + " fields", fields <= 20, true);
            for (Method method : each.getDeclaredMethods()) {
                Bench.due(method.toString(), method.getParameterCount() <= 7, true);
            }
        }
    }

    private static void constructors() {
        Bench.says("rule 12, a constructor hands out nothing of the object that it makes");
        for (Class<?> each : CLASSES) {
            for (Constructor<?> made : each.getDeclaredConstructors()) {
                if (!made.isSynthetic()) {
                    // What a constructor is not given, no other one can have handed out to it.
                    Bench.due(made.toString(), made.getParameterCount(), 0);
                }
            }
        }
    }

    private static void words(String code) {
        Bench.says("rules 2 and 4, no lambda, and only the library that is listed");
        Bench.due("lambdas and method references", code.contains("->") || code.contains("::"), false);
        Set<String> known = new HashSet<>(Arrays.asList("Arrays", "IndexOutOfBoundsException"));
        for (Class<?> each : CLASSES) {
            known.add(each.getSimpleName());
        }
        Matcher name = Pattern.compile("\\b[A-Z][A-Za-z]*[a-z][A-Za-z]*\\b").matcher(code);
        while (name.find()) {
            Bench.due(name.group(), known.contains(name.group()), true);
        }
        Matcher call = Pattern.compile("\\bArrays\\.(\\w+)").matcher(code);
        while (call.find()) {
            Bench.due("Arrays", call.group(1), "fill");
        }
        Matcher brought = Pattern.compile("\\b(?:import|package)\\b[^;]*").matcher(code);
        while (brought.find()) {
            Bench.due("imports", brought.group(), "import java.util.Arrays");
        }
    }

    private static void exceptions(String code) {
        Bench.says("rule 6, exceptions are thrown by a written throw and never caught");
        for (String word : Arrays.asList("try", "catch", "finally", "assert", "synchronized", "instanceof")) {
            Bench.due(word, Pattern.compile("\\b" + word + "\\b").matcher(code).find(), false);
        }
        Matcher thrown = Pattern.compile("\\bthrow\\b[^;]*").matcher(code);
        while (thrown.find()) {
            Bench.due("throw", thrown.group(), "throw new IndexOutOfBoundsException(\"\")");
        }
    }

    private static void objects(String code) {
        Bench.says("rule 12, what a run makes is kept small");
        Matcher made = Pattern.compile("[^\n]*\\bnew\\b[^\n]*").matcher(code);
        while (made.find()) {
            String line = made.group().trim();
            // Fields are made once an object; everything else is made once a call.
            boolean once = line.matches("private final .* = new .*;") || line.matches("\\w+ = new \\w+\\(\\);");
            Bench.due(line, once || line.startsWith("throw "), true);
        }
    }

    private static void methodLengths(String code) {
        Bench.says("rule 11, methods stay short, some sixty lines");
        String[] lines = code.split("\n");
        Pattern head = Pattern.compile("( {4}| {8})[a-z][\\w \\[\\]]*\\(.*\\{");
        int methods = 0;
        for (int i = 0; i < lines.length; i++) {
            if (!head.matcher(lines[i]).matches()) {
                continue;
            }
            String end = lines[i].replaceAll("\\S.*", "") + "}";
            int last = i;
            while (last < lines.length - 1 && !lines[last].equals(end)) {
                last++;
            }
            methods++;
            Bench.due(lines[i].trim(), last - i < 60, true);
        }
        Bench.due("methods were found", methods > 50, true);
    }
}
