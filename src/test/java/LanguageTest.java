import java.lang.reflect.Field;
import java.lang.reflect.Method;
import java.lang.reflect.Modifier;
import java.nio.charset.StandardCharsets;
import java.nio.file.Files;
import java.nio.file.Path;
import java.util.Arrays;
import java.util.Map;
import java.util.Set;
import java.util.TreeMap;
import java.util.TreeSet;
import java.util.regex.Matcher;
import java.util.regex.Pattern;

/** The rules of LANGUAGE.md that a program can look after; run from the project's root. */
public final class LanguageTest {
    private static final int METHOD_LINES = 60, CLASSES = 12, FIELDS = 20, PARAMETERS = 7;
    private static int wrong = 0;

    private static void require(boolean is, String rule) {
        if (!is) {
            wrong++;
            System.out.println("against LANGUAGE.md: " + rule);
        }
    }

    public static void main(String[] args) throws Exception {
        String text = Files.readString(Path.of("src/main/java/BetweenThisAndThat.java"), StandardCharsets.UTF_8);
        String code = text.replaceAll("(?s)/\\*.*?\\*/", "").replaceAll("//[^\n]*", "");
        words(text, code);
        methodLengths(code);
        face();
        insides();
        System.out.println(wrong == 0 ? "the rules that were looked at are kept" : wrong + " rules are not kept");
        if (wrong != 0) {
            System.exit(1);
        }
    }

    private static void words(String text, String code) {
        String[] words = {"throw", "throws", "try", "catch", "finally", "synchronized", "assert", "native",
            "volatile", "transient", "package", "protected", "hashCode", "equals", "toString", "var",
            "Object", "System\\.(?!arraycopy)", "Math\\.\\w*Exact", "new \\w+\\([^)]*\\) \\{"};
        for (String word : words) {
            require(!Pattern.compile("\\b" + word + (word.matches("\\w+") ? "\\b" : "")).matcher(code).find(),
                    "no " + word);
        }
        library(code);
        require(!code.contains("->") && !code.contains("::"), "rule 2: no lambda, no method reference");
        require(!Pattern.compile("\" ?\\+|\\+ ?\"").matcher(code).find(), "rule 10: texts are not joined by +");
        Matcher imports = Pattern.compile("import ([\\w.]+);").matcher(code);
        while (imports.find()) {
            require(Set.of("java.util.Arrays", "java.util.ArrayList", "java.util.List", "java.util.Iterator")
                    .contains(imports.group(1)), "rule 4: import of " + imports.group(1));
        }
        require(text.chars().allMatch(sign -> sign < 128), "rule 4: signs are 1 to 127");
        require(text.lines().allMatch(line -> line.length() <= 120), "lines of 120 signs at most");
    }

    /** Of the library's classes just what rule 4 lists: functions, none of Integer's or Long's constants. */
    private static void library(String code) {
        Matcher each = Pattern.compile("\\b(Integer|Long|Math|System|Arrays)\\.(\\w+)(\\(?)").matcher(code);
        int uses = 0;
        while (each.find()) {
            uses++;
            String name = each.group(2);
            boolean listed = !each.group(3).isEmpty();
            switch (each.group(1)) {
                case "System": listed &= name.equals("arraycopy"); break;
                case "Arrays": listed &= Set.of("copyOf", "copyOfRange", "fill").contains(name); break;
                default: listed &= !name.endsWith("Exact");
            }
            require(listed, "rule 4: " + each.group());
        }
        require(uses > 10, "the uses of the library are found");
    }

    private static void methodLengths(String code) {
        Matcher heads = Pattern.compile("(?m)^( {4}| {8})(?! )[\\w\\[\\]<> ]+\\([^)]*\\) \\{$").matcher(code);
        int methods = 0;
        while (heads.find()) {
            int end = code.indexOf("\n" + heads.group(1) + "}", heads.start());
            String body = code.substring(heads.start(), end);
            methods++;
            require(body.lines().count() <= METHOD_LINES, "rule 11: short methods: " + heads.group());
        }
        require(methods > 60, "the methods are found");
    }

    private static void face() {
        Map<String, Integer> parameters = new TreeMap<>();
        String[] face = {"count 1", "set 1", "feed 6", "text 0", "force 1", "say 4", "unsay 0", "told 2", "link 4",
            "linkTold 2", "can 0", "span 2", "apart 3", "clashes 1", "wrong 1", "blame 0", "between 2", "inch 0",
            "buy 3", "worth 2", "exact 3", "wager 3", "less 3", "lies 1", "breaks 1", "judge 1", "reckon 2",
            "laws 1", "film 2", "drawn 2", "odds 3", "image 0", "back 0", "sheet 3", "cell 3", "copy 5",
            "sayingsBy 4", "taken 2"};
        Set<String> longs = Set.of("between", "buy", "worth", "exact", "wager", "less", "reckon", "odds");
        for (String each : face) {
            parameters.put(each.split(" ")[0], Integer.parseInt(each.split(" ")[1]));
        }
        Class<?> program = BetweenThisAndThat.class;
        require(Modifier.isPublic(program.getModifiers()) && Modifier.isFinal(program.getModifiers()),
                "rule 1: public and final");
        for (Method each : program.getDeclaredMethods()) {
            if (Modifier.isPrivate(each.getModifiers())) {
                require(!parameters.containsKey(each.getName()), "rule 1: a private " + each.getName());
            } else {
                Integer due = parameters.remove(each.getName());
                require(due != null && due == each.getParameterCount()
                        && Arrays.stream(each.getParameterTypes()).allMatch(type -> type == int.class)
                        && each.getReturnType() == (longs.contains(each.getName()) ? long.class : int.class)
                        && Modifier.isPublic(each.getModifiers()) && !Modifier.isStatic(each.getModifiers()),
                        "rule 1: " + each.getName());
            }
        }
        require(parameters.isEmpty(), "the face lacks " + parameters);
        Set<String> constants = new TreeSet<>();
        for (Field each : program.getDeclaredFields()) {
            if (!Modifier.isPrivate(each.getModifiers())) {
                constants.add(each.getName());
            }
        }
        require(constants.equals(Set.of("NONE", "BAD", "STATE", "FULL", "NO")), "rule 1: constants " + constants);
        require(program.getDeclaredConstructors().length == 1
                && Modifier.isPublic(program.getDeclaredConstructors()[0].getModifiers()), "rule 1: constructor");
    }

    private static void insides() {
        Class<?>[] inside = BetweenThisAndThat.class.getDeclaredClasses();
        require(inside.length + 1 <= CLASSES, "rule 11: classes");
        for (Class<?> each : inside) {
            require(Modifier.isStatic(each.getModifiers()) && !Modifier.isPublic(each.getModifiers())
                    && !Modifier.isProtected(each.getModifiers()), "rule 2: " + each.getName());
            oneClass(each);
        }
        oneClass(BetweenThisAndThat.class);
    }

    private static void oneClass(Class<?> each) {
        int fields = 0;
        for (Field field : each.getDeclaredFields()) {
            if (Modifier.isStatic(field.getModifiers())) {
                require(Modifier.isFinal(field.getModifiers()), "rule 5: " + field);
            } else {
                fields++;
            }
        }
        require(fields <= FIELDS, "rule 11: fields of " + each.getName());
        for (Method method : each.getDeclaredMethods()) {
            require(method.getParameterCount() <= PARAMETERS, "rule 11: parameters of " + method);
        }
    }
}
