import java.io.IOException;
import java.lang.reflect.Constructor;
import java.lang.reflect.Field;
import java.lang.reflect.Method;
import java.lang.reflect.Modifier;
import java.nio.file.Files;
import java.nio.file.Path;
import java.util.ArrayList;
import java.util.List;
import java.util.TreeSet;
import java.util.regex.Matcher;
import java.util.regex.Pattern;

/** The face as the document tells it, and those rules of LANGUAGE.md that can be seen in the source. */
public final class LanguageTests {
    private static final Path SOURCE = Path.of("src/main/java/SpanTimetable.java");

    private static final String[] FACE = {
        "int feed(int,int,int,int,int)", "int load(int) A", "int errorKind()", "int errorPosition()", "int period()",
        "int events()", "int spans()", "int find(int) A", "int time(int) I", "int span(int,int) I A", "int duration(int) I",
        "int slack(int) I", "boolean isKept(int) I", "int broken()", "int firstBroken() N", "int cost()", "float meanSlack()",
        "int allowed(int,int,boolean) I", "boolean isAllowed(int,int,int) I A", "int rounds()", "boolean isTight()",
        "int bound(int,boolean) I N", "int cycles()", "int cycleLength(int) I", "int cycleSpan(int,int) I",
        "boolean isForward(int,int) I", "int turns(int,int) I A", "int firstImpossible() N", "boolean isSolvable()",
        "int leastCost() N", "int costIf(int,int) I A", "int canRaise(int) I", "boolean isCritical(int) I",
        "int share(int,int) I A", "int move(int,int) I A", "int shift(int)", "int setSpan(int,int,int) I A",
        "int setWeight(int,int) I A", "int addSpan(int,int,int,int,int) I A S", "int removeSpan(int) I",
        "int setPeriod(int) A S", "int solve() N", "int cheapen() N", "int improve()", "int undo()", "int write()",
        "int writeCycle(int) I", "char written(int) I"};

    private static final String[] FORBIDDEN = {
        "->", "::", "\\bfinally\\b", "\\bcatch\\b", "\\btry\\b", "\\bassert\\b", "\\bsynchronized\\b", "\\bstatic\\s*\\{",
        "Exact\\(", "\\bSystem\\.(?!arraycopy)", "\\bArrays\\.(?!copyOf|copyOfRange|fill)", "\\bThread\\b", "\\bRandom\\b",
        "\\bfinal class \\w+ extends", "\\.(equals|hashCode|toString|getMessage)\\(", "\\bgoto\\b", "\\bvar\\b", "\\bdouble\\b"};

    private LanguageTests() {
    }

    public static void main(String[] args) throws IOException {
        String source = bare(Files.readString(SOURCE));
        Kit.begin();
        checkFace();
        Kit.end("language: the face");
        Kit.begin();
        checkSource(source);
        Kit.end("language: the source");
        Kit.begin();
        checkLengths(source);
        Kit.end("language: the lengths of methods");
        Kit.exit();
    }

    /** The source without its comments and texts. */
    private static String bare(String source) {
        String plain = source.replaceAll("\"[^\"\\n]*\"", "\"\"").replaceAll("//[^\\n]*", "");
        Matcher comments = Pattern.compile("/\\*.*?\\*/", Pattern.DOTALL).matcher(plain);
        return comments.replaceAll(comment -> comment.group().replaceAll("[^\\n]", ""));
    }

    private static void checkFace() {
        TreeSet<String> due = new TreeSet<>(List.of(FACE));
        TreeSet<String> got = new TreeSet<>();
        for (Method method : SpanTimetable.class.getDeclaredMethods()) {
            if (!Modifier.isPrivate(method.getModifiers())) {
                got.add(told(method));
                Kit.equal("modifiers of " + method.getName(), Modifier.PUBLIC, method.getModifiers());
            }
        }
        Kit.equal("the public methods", due, got);
        Kit.equal("the class", Modifier.PUBLIC | Modifier.FINAL, SpanTimetable.class.getModifiers());
        Constructor<?>[] constructors = SpanTimetable.class.getDeclaredConstructors();
        Kit.equal("constructors", 1, constructors.length);
        Kit.equal("modifiers of the constructor", Modifier.PUBLIC, constructors[0].getModifiers());
        TreeSet<String> constants = new TreeSet<>();
        for (Field field : SpanTimetable.class.getDeclaredFields()) {
            if (!Modifier.isPrivate(field.getModifiers())) {
                constants.add(field.toString());
            }
        }
        Kit.equal("the constants", "[public static final int SpanTimetable.BAD_TEXT, public static final int SpanTimetable.FULL, "
                + "public static final int SpanTimetable.NONE]", constants.toString());
        for (Class<?> inside : SpanTimetable.class.getDeclaredClasses()) {
            checkInside(inside);
        }
    }

    private static String told(Method method) {
        StringBuilder text = new StringBuilder();
        text.append(method.getReturnType()).append(" ").append(method.getName()).append("(");
        for (int k = 0; k < method.getParameterCount(); k++) {
            text.append(k == 0 ? "" : ",").append(method.getParameterTypes()[k]);
        }
        text.append(")");
        List<String> exceptions = new ArrayList<>();
        for (Class<?> exception : method.getExceptionTypes()) {
            exceptions.add(switch (exception.getSimpleName()) {
                case "IndexOutOfBoundsException" -> " I";
                case "IllegalArgumentException" -> " A";
                case "NoSuchElementException" -> " N";
                case "IllegalStateException" -> " S";
                default -> " " + exception.getName();
            });
        }
        return text.append(String.join("", exceptions)).toString();
    }

    private static void checkInside(Class<?> inside) {
        Kit.equal(inside + " is static", true, Modifier.isStatic(inside.getModifiers()));
        TreeSet<String> names = new TreeSet<>();
        for (String call : FACE) {
            names.add(call.substring(call.indexOf(' ') + 1, call.indexOf('(')));
        }
        for (Method method : inside.getDeclaredMethods()) {
            if (names.contains(method.getName())) {
                Kit.fail(inside + " has a method with the public name " + method.getName());
            }
            if (method.getParameterCount() > 7) {
                Kit.fail(method + " takes more than seven parameters");
            }
        }
        int fields = 0;
        for (Field field : inside.getDeclaredFields()) {
            boolean constant = Modifier.isStatic(field.getModifiers());
            fields += constant ? 0 : 1;
            if (constant && !Modifier.isFinal(field.getModifiers())) {
                Kit.fail(field + " is static and not final");
            }
        }
        if (fields > 20) {
            Kit.fail(inside + " has " + fields + " fields");
        }
    }

    private static void checkSource(String source) {
        for (String form : FORBIDDEN) {
            Matcher found = Pattern.compile(form).matcher(source);
            if (found.find()) {
                Kit.fail("the source has " + found.group());
            }
        }
        Matcher imports = Pattern.compile("(?m)^import .*$").matcher(source);
        while (imports.find()) {
            Kit.equal("an import", "import java.util.NoSuchElementException;", imports.group());
        }
        Matcher thrown = Pattern.compile("throw\\b(?! new (IllegalArgument|IndexOutOfBounds|NoSuchElement|IllegalState)Exception\\(\"\"\\);)")
                .matcher(source);
        if (thrown.find()) {
            Kit.fail("a throw of another form at " + thrown.start());
        }
        if (source.contains("package ")) {
            Kit.fail("the source has a package line");
        }
    }

    private static void checkLengths(String source) {
        String[] lines = source.split("\n");
        int start = 0;
        for (int k = 0; k < lines.length; k++) {
            if (lines[k].matches(" {4,8}\\S.*\\) ?(throws .*)?\\{")) {
                start = k;
            }
            if (lines[k].matches(" {4,8}\\}") && k - start > 60) {
                boolean classEnd = lines[k].startsWith("    }");
                if (!classEnd) {
                    Kit.fail("a method of " + (k - start) + " lines ends at line " + (k + 1));
                }
            }
        }
    }
}
