import java.io.DataInputStream;
import java.io.IOException;
import java.lang.reflect.Constructor;
import java.lang.reflect.Field;
import java.lang.reflect.Method;
import java.lang.reflect.Modifier;
import java.nio.file.Files;
import java.nio.file.Path;
import java.util.ArrayList;
import java.util.List;
import java.util.TreeSet;
import java.util.regex.Matcher;
import java.util.regex.Pattern;

/** The face as the document tells it, and those rules of LANGUAGE.md that can be seen in the source. */
public final class LanguageTests {
    private static final Path SOURCE = Path.of("src/main/java/SpanTimetable.java");

    private static final String[] FACE = {
        "int feed(int,int,int,int,int)", "int load(int) A", "int errorKind()", "int errorPosition()", "int period()",
        "int events()", "int spans()", "int find(int) A", "int time(int) I", "int span(int,int) I A", "int duration(int) I",
        "int slack(int) I", "boolean isKept(int) I", "int broken()", "int firstBroken() N", "int cost()", "float meanSlack()",
        "int allowed(int,int,boolean) I", "boolean isAllowed(int,int,int) I A", "int rounds()", "boolean isTight()",
        "int bound(int,boolean) I N", "int cycles()", "int cycleLength(int) I", "int cycleSpan(int,int) I",
        "boolean isForward(int,int) I", "int turns(int,int) I A", "int firstImpossible() N", "boolean isSolvable()",
        "int leastCost() N", "int costIf(int,int) I A", "int canRaise(int) I", "boolean isCritical(int) I",
        "int share(int,int) I A", "int move(int,int) I A", "int shift(int)", "int setSpan(int,int,int) I A",
        "int setWeight(int,int) I A", "int addSpan(int,int,int,int,int) I A S", "int removeSpan(int) I",
        "int setPeriod(int) A S", "int solve() N", "int cheapen() N", "int improve()", "int undo()", "int write()",
        "int writeCycle(int) I", "char written(int) I"};

    private static final String[] FORBIDDEN = {
        "->", "::", "\\bfinally\\b", "\\bcatch\\b", "\\btry\\b", "\\bassert\\b", "\\bsynchronized\\b", "\\bstatic\\s*\\{",
        "Exact\\(", "\\bSystem\\.(?!arraycopy)", "\\bArrays\\.(?!copyOf|copyOfRange|fill)", "\\bThread\\b", "\\bRandom\\b",
        "\\bfinal class \\w+ extends", "\\.(equals|hashCode|toString|getMessage)\\(", "\\bgoto\\b", "\\bvar\\b", "\\bdouble\\b"};

    // Rule 4, as the compiled classes name it: the class, a dot, the method.
    private static final String LIBRARY = "java/lang/Object\\.<init>"
            + "|java/lang/(IllegalState|IllegalArgument|IndexOutOfBounds|Arithmetic|UnsupportedOperation|Runtime)Exception\\.<init>"
            + "|java/util/NoSuchElementException\\.<init>"
            + "|java/lang/String\\.(<init>|length|charAt|isEmpty|equals|indexOf|substring|toCharArray)"
            + "|java/lang/StringBuilder\\.(<init>|append|charAt|setCharAt|setLength|deleteCharAt|reverse|length|toString)"
            + "|java/lang/(Integer|Long|Math)\\.(compare|max|min|abs|bitCount|floorDiv|floorMod)"
            + "|java/lang/System\\.arraycopy|java/util/Arrays\\.(copyOf|copyOfRange|fill)"
            + "|java/util/(ArrayList|List)\\.(<init>|add|get|set|remove|size|isEmpty|clear|of)"
            + "|\\[+[BCDFIJSZ]\\.clone|SpanTimetable[\\w$]*\\.[\\w<>]+";

    private LanguageTests() {
    }

    public static void main(String[] args) throws IOException {
        String source = bare(Files.readString(SOURCE));
        Kit.begin();
        checkFace();
        Kit.end("language: the face");
        Kit.begin();
        checkSource(source);
        Kit.end("language: the source");
        Kit.begin();
        checkCalls(SpanTimetable.class);
        for (Class<?> inside : SpanTimetable.class.getDeclaredClasses()) {
            checkCalls(inside);
        }
        Kit.end("language: the calls of the library");
        Kit.begin();
        checkLengths(source);
        Kit.end("language: the lengths of methods");
        Kit.exit();
    }

    /** The source without its comments and texts. */
    private static String bare(String source) {
        String plain = source.replaceAll("\"[^\"\\n]*\"", "\"\"").replaceAll("//[^\\n]*", "");
        Matcher comments = Pattern.compile("/\\*.*?\\*/", Pattern.DOTALL).matcher(plain);
        return comments.replaceAll(comment -> comment.group().replaceAll("[^\\n]", ""));
    }

    private static void checkFace() {
        TreeSet<String> due = new TreeSet<>(List.of(FACE));
        TreeSet<String> got = new TreeSet<>();
        for (Method method : SpanTimetable.class.getDeclaredMethods()) {
            if (!Modifier.isPrivate(method.getModifiers())) {
                got.add(told(method));
                Kit.equal("modifiers of " + method.getName(), Modifier.PUBLIC, method.getModifiers());
            }
        }
        Kit.equal("the public methods", due, got);
        Kit.equal("the class", Modifier.PUBLIC | Modifier.FINAL, SpanTimetable.class.getModifiers());
        Constructor<?>[] constructors = SpanTimetable.class.getDeclaredConstructors();
        Kit.equal("constructors", 1, constructors.length);
        Kit.equal("modifiers of the constructor", Modifier.PUBLIC, constructors[0].getModifiers());
        TreeSet<String> constants = new TreeSet<>();
        for (Field field : SpanTimetable.class.getDeclaredFields()) {
            if (!Modifier.isPrivate(field.getModifiers())) {
                constants.add(field.toString());
            }
        }
        Kit.equal("the constants", "[public static final int SpanTimetable.BAD_TEXT, public static final int SpanTimetable.FULL, "
                + "public static final int SpanTimetable.NONE]", constants.toString());
        for (Class<?> inside : SpanTimetable.class.getDeclaredClasses()) {
            checkInside(inside);
        }
    }

    private static String told(Method method) {
        StringBuilder text = new StringBuilder();
        text.append(method.getReturnType()).append(" ").append(method.getName()).append("(");
        for (int k = 0; k < method.getParameterCount(); k++) {
            text.append(k == 0 ? "" : ",").append(method.getParameterTypes()[k]);
        }
        text.append(")");
        List<String> exceptions = new ArrayList<>();
        for (Class<?> exception : method.getExceptionTypes()) {
            exceptions.add(switch (exception.getSimpleName()) {
                case "IndexOutOfBoundsException" -> " I";
                case "IllegalArgumentException" -> " A";
                case "NoSuchElementException" -> " N";
                case "IllegalStateException" -> " S";
                default -> " " + exception.getName();
            });
        }
        return text.append(String.join("", exceptions)).toString();
    }

    private static void checkInside(Class<?> inside) {
        Kit.equal(inside + " is static", true, Modifier.isStatic(inside.getModifiers()));
        TreeSet<String> names = new TreeSet<>();
        for (String call : FACE) {
            names.add(call.substring(call.indexOf(' ') + 1, call.indexOf('(')));
        }
        for (Method method : inside.getDeclaredMethods()) {
            if (names.contains(method.getName())) {
                Kit.fail(inside + " has a method with the public name " + method.getName());
            }
            if (method.getParameterCount() > 7) {
                Kit.fail(method + " takes more than seven parameters");
            }
        }
        int fields = 0;
        for (Field field : inside.getDeclaredFields()) {
            boolean constant = Modifier.isStatic(field.getModifiers());
            fields += constant ? 0 : 1;
            if (constant && !Modifier.isFinal(field.getModifiers())) {
                Kit.fail(field + " is static and not final");
            }
        }
        if (fields > 20) {
            Kit.fail(inside + " has " + fields + " fields");
        }
    }

    private static void checkSource(String source) {
        for (String form : FORBIDDEN) {
            Matcher found = Pattern.compile(form).matcher(source);
            if (found.find()) {
                Kit.fail("the source has " + found.group());
            }
        }
        Matcher imports = Pattern.compile("(?m)^import .*$").matcher(source);
        while (imports.find()) {
            Kit.equal("an import", "import java.util.NoSuchElementException;", imports.group());
        }
        Matcher thrown = Pattern.compile("throw\\b(?! new (IllegalArgument|IndexOutOfBounds|NoSuchElement|IllegalState)Exception\\(\"\"\\);)")
                .matcher(source);
        if (thrown.find()) {
            Kit.fail("a throw of another form at " + thrown.start());
        }
        if (source.contains("package ")) {
            Kit.fail("the source has a package line");
        }
    }

    /** Each call that the compiled class names must be one of rule 4 or of the class's own. */
    private static void checkCalls(Class<?> compiled) throws IOException {
        try (DataInputStream in = new DataInputStream(compiled.getResourceAsStream(compiled.getName() + ".class"))) {
            in.skipNBytes(8);
            int count = in.readUnsignedShort();
            String[] texts = new String[count];
            int[][] numbers = new int[count][];
            for (int k = 1; k < count; k++) {
                int tag = in.readUnsignedByte();
                numbers[k] = new int[] {tag, 0, 0};
                switch (tag) {
                    case 1 -> texts[k] = in.readUTF();
                    case 3, 4 -> in.skipNBytes(4);
                    case 5, 6 -> {
                        // A long and a double take two places.
                        in.skipNBytes(8);
                        k++;
                    }
                    case 7, 8, 16, 19, 20 -> numbers[k][1] = in.readUnsignedShort();
                    case 15 -> in.skipNBytes(3);
                    default -> {
                        numbers[k][1] = in.readUnsignedShort();
                        numbers[k][2] = in.readUnsignedShort();
                    }
                }
            }
            for (int[] entry : numbers) {
                checkEntry(compiled, entry, numbers, texts);
            }
        }
    }

    private static void checkEntry(Class<?> compiled, int[] entry, int[][] numbers, String[] texts) {
        int tag = entry == null ? 0 : entry[0];
        if (tag == 17 || tag == 18) {
            Kit.fail(compiled + " has a call that is made up at run time");
        }
        if (tag == 10 || tag == 11) {
            String call = texts[numbers[entry[1]][1]] + "." + texts[numbers[entry[2]][1]];
            if (!call.matches(LIBRARY)) {
                Kit.fail(compiled + " calls " + call);
            }
        }
    }

    private static void checkLengths(String source) {
        String[] lines = source.split("\n");
        int start = 0;
        for (int k = 0; k < lines.length; k++) {
            if (lines[k].matches(" {4,8}\\S.*\\) ?(throws .*)?\\{")) {
                start = k;
            }
            if (lines[k].matches(" {4,8}\\}") && k - start > 60) {
                boolean classEnd = lines[k].startsWith("    }");
                if (!classEnd) {
                    Kit.fail("a method of " + (k - start) + " lines ends at line " + (k + 1));
                }
            }
        }
    }
}
