import java.lang.reflect.Constructor;
import java.lang.reflect.Field;
import java.lang.reflect.Method;
import java.lang.reflect.Modifier;
import java.nio.file.Files;
import java.nio.file.Path;
import java.util.Set;
import java.util.TreeSet;
import java.util.regex.Matcher;
import java.util.regex.Pattern;

/** The document's face, and those rules of LANGUAGE.md that the class and its source show. */
public final class LanguageTests {
    private static final String[] FACE = {
        "int choice(int)", "int weight(int,int,int)", "int rule(int,int,boolean)", "int is(int,int)",
        "int compare(int,int,int)", "int many(int,int)", "int join(int,int,int)", "int not(int)",
        "int choose(int,int,int)", "int condition(int,int,int)", "int quantify(int,int,boolean)",
        "int substitute(int,int,int)", "int exchange(int,int,int)", "int feed(int,int,int,int,int) throws IllegalStateException",
        "void end(int) throws IllegalArgumentException", "int read()", "int fault()", "int named()", "int runs(int)", "int alike(int,int)",
        "int depends(int,int)", "int size(int)", "int ways(int)", "int least(int)", "long best(int)",
        "int told(int)", "int odds(int,int) throws ArithmeticException", "long part(boolean)", "long weigh(int)", "int enter(int)",
        "int down(int)", "int here()", "int print(int)", "int printed(int)", "int place(int)",
        "int move(int,int)", "int seek()"};
    private static final String[] CONSTANTS = {"NONE", "UNKNOWN", "OUTSIDE", "STATE", "ROOM"};

    private LanguageTests() { }

    private static String face(Method method) {
        StringBuilder text = new StringBuilder(method.getReturnType() + " " + method.getName() + "(");
        for (Class<?> type : method.getParameterTypes()) text.append(type).append(',');
        if (method.getParameterCount() > 0) text.setLength(text.length() - 1);
        text.append(')');
        for (Class<?> thrown : method.getExceptionTypes()) text.append(" throws ").append(thrown.getSimpleName());
        return text.toString();
    }

    static void members() {
        Set<String> methods = new TreeSet<>(), names = new TreeSet<>(), constants = new TreeSet<>();
        for (Method method : DiagramOdds.class.getDeclaredMethods()) {
            if (Modifier.isPrivate(method.getModifiers())) continue;
            methods.add(face(method));
            names.add(method.getName());
        }
        Check.due("rule 1, methods", methods.toString(), new TreeSet<>(Set.of(FACE)).toString());
        for (Field field : DiagramOdds.class.getDeclaredFields()) {
            if (!Modifier.isPrivate(field.getModifiers())) constants.add(field.getName());
        }
        Check.due("rule 1, constants", constants.toString(), new TreeSet<>(Set.of(CONSTANTS)).toString());
        int[] values = {DiagramOdds.NONE, DiagramOdds.UNKNOWN, DiagramOdds.OUTSIDE, DiagramOdds.STATE, DiagramOdds.ROOM};
        Check.due("values of the constants", java.util.Arrays.toString(values), "[-1, -101, -102, -103, -104]");
        Constructor<?>[] constructors = DiagramOdds.class.getDeclaredConstructors();
        Check.due("rule 1, constructors", constructors.length, 1);
        Check.due("rule 1, final", Modifier.isFinal(DiagramOdds.class.getModifiers()) ? 1 : 0, 1);
        for (Class<?> inside : DiagramOdds.class.getDeclaredClasses()) {
            Check.due("rule 1, static " + inside, Modifier.isStatic(inside.getModifiers()) ? 1 : 0, 1);
            for (Method method : inside.getDeclaredMethods()) {
                Check.due("rule 1, name of " + method, names.contains(method.getName()) ? 1 : 0, 0);
                Check.due("rule 11, parameters of " + method, method.getParameterCount() <= 7 ? 1 : 0, 1);
            }
            int fields = 0;
            for (Field field : inside.getDeclaredFields()) if (!Modifier.isStatic(field.getModifiers())) fields++;
            Check.due("rule 11, fields of " + inside, fields <= 20 ? 1 : 0, 1);
        }
        Check.due("rule 11, classes", DiagramOdds.class.getDeclaredClasses().length <= 11 ? 1 : 0, 1);
        for (Method method : DiagramOdds.class.getDeclaredMethods()) {
            boolean named = Modifier.isPrivate(method.getModifiers()) && names.contains(method.getName());
            Check.due("rule 1, name of " + method, named ? 1 : 0, 0);
        }
        for (Field field : DiagramOdds.class.getDeclaredFields()) {
            boolean loose = Modifier.isStatic(field.getModifiers()) && !Modifier.isFinal(field.getModifiers());
            Check.due("rule 5, " + field, loose ? 1 : 0, 0);
        }
    }

    /** Each word that a pattern finds is one of those that are allowed. */
    private static void only(String code, String what, String pattern, String allowed) {
        Set<String> words = Set.of(allowed.split(" "));
        Matcher matcher = Pattern.compile(pattern).matcher(code);
        while (matcher.find()) Check.due(what + matcher.group(1), words.contains(matcher.group(1)) ? 1 : 0, 1);
    }

    static void source(Path path) throws java.io.IOException {
        String text = Files.readString(path);
        String code = text.replaceAll("(?s)/\\*.*?\\*/", "").replaceAll("//[^\n]*", "");
        String[] banned = {
            "\\btry\\b", "\\bcatch\\b", "\\bfinally\\b", "\\bsynchronized\\b", "\\bassert\\b", "->", "::", "\\bpackage\\b",
            "System\\.(?!arraycopy)", "\\bdouble\\b", "\\bfloat\\b", "Exact\\(", "while \\(true\\)", "for \\(;;", "\" \\+", "\\+ \""};
        for (String one : banned) {
            Matcher matcher = Pattern.compile(one).matcher(code);
            Check.due("source: " + one, matcher.find() ? 1 : 0, 0);
        }
        only(code, "rule 4, Arrays.", "Arrays\\.(\\w+)", "copyOf copyOfRange fill");
        only(code, "rule 4, Math. and Long.", "(?:Math|Long|Integer)\\.(\\w+)", "max min abs bitCount signum compare floorDiv floorMod");
        only(code, "rule 6, new", "new (\\w+Exception)", "IllegalStateException IllegalArgumentException ArithmeticException");
        Matcher methods = Pattern.compile("(?ms)^( +)(?:private|public) [^;={}]*\\) (?:throws \\w+ )?\\{\n(.*?)^\\1\\}").matcher(code);
        int found = 0;
        while (methods.find()) {
            found++;
            Check.due("rule 11, lines of " + methods.group(), methods.group(2).split("\n").length <= 60 ? 1 : 0, 1);
        }
        Check.due("rule 11, methods were found", found > 100 ? 1 : 0, 1);
        Matcher imports = Pattern.compile("(?m)^import (.*);").matcher(text);
        while (imports.find()) Check.due("rule 4, import", imports.group(1), "java.util.Arrays");
    }

    public static void main(String[] args) throws java.io.IOException {
        members();
        source(Path.of("src/main/java/DiagramOdds.java"));
        Check.finish("the language");
    }
}
