import java.io.IOException;
import java.lang.reflect.Constructor;
import java.lang.reflect.Field;
import java.lang.reflect.Method;
import java.lang.reflect.Modifier;
import java.nio.file.Files;
import java.nio.file.Path;
import java.util.ArrayList;
import java.util.List;
import java.util.Set;
import java.util.regex.Matcher;
import java.util.regex.Pattern;

/** Rules of ../shared/LANGUAGE.md that can be looked at in the program's text and its classes. */
public final class LanguageTest {
    private static final Path PROGRAM = Path.of("src", "main", "java", "PriceEdict.java");
    private static final Set<String> THROWN = Set.of("IllegalArgumentException", "IndexOutOfBoundsException",
            "UnsupportedOperationException", "NoSuchElementException");

    public static void main(String[] args) throws IOException {
        String program = Files.readString(PROGRAM);
        String code = program.replaceAll("(?s)/\\*.*?\\*/", "").replaceAll("//.*", "");
        oneImport(code);
        wordsLeftOut(code);
        thrownAsWritten(code);
        shortMethods(program);
        for (Class<?> one : classes()) {
            staticFieldsAreFinal(one);
            fewParametersAndFields(one);
        }
        Check.end();
    }

    private static List<Class<?>> classes() {
        List<Class<?>> all = new ArrayList<>(List.of(PriceEdict.class.getDeclaredClasses()));
        Check.due("some twelve classes at most", all.size() <= 11, true);
        all.add(PriceEdict.class);
        return all;
    }

    private static void oneImport(String code) {
        Matcher imports = Pattern.compile("import ([^;]+);").matcher(code);
        while (imports.find()) {
            Check.due("rule 4: import " + imports.group(1), imports.group(1).equals("java.util.NoSuchElementException"), true);
        }
        Check.due("no package line", code.contains("package "), false);
    }

    private static void wordsLeftOut(String code) {
        String[] parts = {"->", "::", "try", "catch", "finally", "synchronized", "assert", "System", "Thread",
            "double", "float", "Exact(", "\" +", "+ \"", "static {", "volatile", "native", "Object", "getClass"};
        for (String part : parts) {
            Check.due("the program has no " + part, code.contains(part), false);
        }
    }

    private static void thrownAsWritten(String code) {
        Matcher thrown = Pattern.compile("throw (?:new (\\w+)\\(\"[^\"]*\"\\);)?").matcher(code);
        int found = 0;
        while (thrown.find()) {
            found++;
            String name = thrown.group(1);
            Check.due("rule 6: throw new " + name, name != null && THROWN.contains(name), true);
        }
        Check.due("it throws by itself", found > 0, true);
    }

    /** A method's lines are those from its head to the brace that stands as far in as the head. */
    private static void shortMethods(String program) {
        Matcher methods = Pattern.compile("(?m)^( +)(?:[\\w\\[\\]]+ )*(\\w+)\\([^;{}]*\\{$").matcher(program);
        int found = 0;
        while (methods.find()) {
            int end = program.indexOf("\n" + methods.group(1) + "}", methods.end());
            long length = program.substring(methods.start(), Math.max(methods.start(), end)).lines().count();
            Check.due("rule 11: " + methods.group(2) + " has " + length + " lines", length <= 60, true);
            found++;
        }
        Check.due("methods were found", found > 60, true);
    }

    private static void staticFieldsAreFinal(Class<?> one) {
        for (Field field : one.getDeclaredFields()) {
            int how = field.getModifiers();
            Check.due("rule 5: " + field, !Modifier.isStatic(how) || Modifier.isFinal(how), true);
        }
    }

    private static void fewParametersAndFields(Class<?> one) {
        int fields = 0;
        for (Field field : one.getDeclaredFields()) {
            fields += Modifier.isStatic(field.getModifiers()) ? 0 : 1;
        }
        Check.due("rule 11: fields of " + one, fields <= 20, true);
        for (Method method : one.getDeclaredMethods()) {
            Check.due("rule 11: " + method, method.getParameterCount() <= 7, true);
        }
        for (Constructor<?> made : one.getDeclaredConstructors()) {
            Check.due("rule 11: " + made, made.getParameterCount() <= 7, true);
        }
    }
}
