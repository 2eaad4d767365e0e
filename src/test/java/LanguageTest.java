import java.io.IOException;
import java.lang.reflect.Constructor;
import java.lang.reflect.Field;
import java.lang.reflect.Method;
import java.lang.reflect.Modifier;
import java.nio.file.Files;
import java.nio.file.Path;
import java.util.ArrayList;
import java.util.List;
import java.util.Set;
import java.util.regex.Matcher;
import java.util.regex.Pattern;

/** The rules of LANGUAGE.md, as far as the text of the class and its shape show them; .ci/run names the file. */
public final class LanguageTest {
    private static final Check CHECK = new Check("LanguageTest");
    private static final Set<String> LIBRARY = Set.of("Math.max", "Math.min", "Math.abs", "Math.floorMod", "Math.floorDiv",
            "System.arraycopy", "Arrays.copyOf", "Arrays.copyOfRange", "Arrays.fill");
    private static final Set<String> CONSTANTS = Set.of("int", "long", "boolean", "char", "String");
    private static final Pattern EXCEPTION = Pattern.compile("throw new (IllegalStateException|IllegalArgumentException"
            + "|IndexOutOfBoundsException|ArithmeticException|UnsupportedOperationException|NoSuchElementException"
            + "|RuntimeException)\\((\"[^\"]*\")?\\);");
    private static final Pattern METHOD = Pattern.compile(
            "^ {4}(?: {4})?(?!class|new|return|throw|else)(?:\\w+ )*(\\w+)\\(.*(?:\\{|,|\\))$");

    public static void main(String[] args) throws IOException {
        String text = Files.readString(Path.of(System.getProperty("source")));
        String bare = text.replaceAll("(?s)/\\*.*?\\*/", "").replaceAll("(?m)//.*$", "");
        String code = bare.replaceAll("\"[^\"]*\"", "\"\"");
        oneFile(code, text);
        noneOf(code);
        library(code);
        exceptions(bare);
        loops(code);
        lengths(text);
        shape(PaletteFrames.class);
        for (Class<?> inside : PaletteFrames.class.getDeclaredClasses()) {
            shape(inside);
        }
        CHECK.finish();
    }

    private static void oneFile(String code, String text) {
        CHECK.says("one file, without a package line");
        CHECK.due("package lines", count(code, "(?m)^package "), 0);
        CHECK.due("top classes", count(code, "(?m)^(public |final |abstract )*(class|interface|enum|record) "), 1);
        CHECK.due("characters above 127", (int) text.chars().filter(c -> c > 127).count(), 0);
    }

    private static void noneOf(String code) {
        CHECK.says("rules 2, 5, 6, 10 and 12");
        String[] words = {"try", "catch", "finally", "synchronized", "assert", "protected", "volatile", "native", "var",
            "null", "instanceof", "equals", "hashCode", "toString", "getMessage", "values", "Object", "double", "float"};
        for (String word : words) {
            CHECK.due("the word " + word, count(code, "\\b" + word + "\\b"), 0);
        }
        CHECK.due("arrows", count(code, "->|::"), 0);
        CHECK.due("static blocks", count(code, "static\\s*\\{"), 0);
        CHECK.due("texts joined by +", count(code, "\"\\s*\\+|\\+\\s*\""), 0);
    }

    private static void library(String code) {
        CHECK.says("4. The library: only what stands here");
        List<String> imports = new ArrayList<>();
        Matcher lines = Pattern.compile("(?m)^import (.*);$").matcher(code);
        while (lines.find()) {
            imports.add(lines.group(1));
        }
        CHECK.due("imports", imports.toString(), "[java.util.Arrays]");
        CHECK.due("full names", count(code, "\\bjavax?\\."), 1);
        Matcher calls = Pattern.compile("\\b(Math|System|Arrays|Integer|Long|List|String|Boolean|Character|Thread|Runtime)\\.\\w+")
                .matcher(code);
        while (calls.find()) {
            CHECK.due(calls.group() + " is listed", LIBRARY.contains(calls.group()) ? 1 : 0, 1);
        }
    }

    private static void exceptions(String bare) {
        CHECK.says("6. Exceptions: throw new E() or throw new E(\"a written text\")");
        CHECK.due("other throws", count(bare, "\\bthrow\\b") - count(bare, EXCEPTION.pattern()), 0);
        CHECK.due("there are some", count(bare, "\\bthrow\\b") > 20 ? 1 : 0, 1);
    }

    private static void loops(String code) {
        CHECK.says("9. Every loop has an end that can be seen from its own lines");
        CHECK.due("loops without a bound", count(code, "while \\(true\\)|for \\([^;)]*;\\s*;"), 0);
    }

    /** A method's lines go up to the brace that stands as far in as it does. */
    private static void lengths(String text) {
        CHECK.says("11. Methods stay short (some sixty lines)");
        String[] lines = text.split("\n");
        int methods = 0;
        for (int i = 0; i < lines.length; i++) {
            Matcher method = METHOD.matcher(lines[i]);
            if (method.find()) {
                String end = lines[i].substring(0, lines[i].length() - lines[i].stripLeading().length()) + "}";
                int last = i;
                while (last < lines.length - 1 && !lines[last].equals(end)) {
                    last++;
                }
                CHECK.due("lines of " + method.group(1), Math.max(60, last - i + 1), 60);
                methods++;
            }
        }
        CHECK.due("there are methods", methods > 60 ? 1 : 0, 1);
    }

    private static void shape(Class<?> one) {
        CHECK.says("rules 5 and 11");
        int fields = 0;
        for (Field field : one.getDeclaredFields()) {
            if (Modifier.isStatic(field.getModifiers())) {
                CHECK.due("static " + field, Modifier.isFinal(field.getModifiers()) ? 1 : 0, 1);
                CHECK.due("static " + field, CONSTANTS.contains(field.getType().getSimpleName()) ? 1 : 0, 1);
            } else {
                fields++;
            }
        }
        CHECK.due("fields of " + one, Math.max(20, fields), 20);
        for (Method method : one.getDeclaredMethods()) {
            CHECK.due("parameters of " + method, Math.max(7, method.getParameterCount()), 7);
        }
        for (Constructor<?> made : one.getDeclaredConstructors()) {
            CHECK.due("parameters of " + made, Math.max(7, made.getParameterCount()), 7);
        }
        CHECK.due("classes in " + one, one.getDeclaredClasses().length == 0 || one == PaletteFrames.class ? 1 : 0, 1);
    }

    private static int count(String text, String pattern) {
        return (int) Pattern.compile(pattern).matcher(text).results().count();
    }
}
