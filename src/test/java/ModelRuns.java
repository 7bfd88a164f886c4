import java.lang.reflect.InvocationTargetException;
import java.lang.reflect.Method;
import java.lang.reflect.Modifier;
import java.nio.charset.StandardCharsets;
import java.util.ArrayList;
import java.util.Arrays;
import java.util.Comparator;
import java.util.List;
import java.util.Random;

/** Long runs of calls, the same in each session, answered by the class and by the model alike. */
public final class ModelRuns {
    private static final List<Method> CALLS = calls();
    private static final int[] WILD = {-1, -2, 24, 25, 48, 49, 20, 21, 999, 1000, Integer.MIN_VALUE, Integer.MAX_VALUE};

    // Where more timetables may be good, the model's searches would take too long.
    private static final long MOST_GOOD = 5_000;
    private static final List<String> SEARCHES =
            List.of("isSolvable", "leastCost", "canRaise", "isCritical", "solve", "cheapen");

    private final Random random;
    private final boolean wide;
    private final SpanTimetable real = new SpanTimetable();
    private final Model model = new Model();
    private final List<String> log = new ArrayList<>();

    private ModelRuns(long seed, boolean wide) {
        random = new Random(seed);
        this.wide = wide;
    }

    public static void main(String[] args) throws ReflectiveOperationException {
        runAll("legal and illegal texts", 0, 4000, 12, false);
        runAll("short runs", 100_000, 2500, 60, false);
        runAll("runs of 512 calls", 200_000, 60, 512, false);
        runAll("short runs with wide texts", 300_000, 2500, 80, true);
        runAll("runs of 512 calls with wide texts", 400_000, 60, 512, true);
        Kit.exit();
    }

    private static void runAll(String name, long firstSeed, int runs, int calls, boolean wide)
            throws ReflectiveOperationException {
        Kit.begin();
        for (int run = 0; run < runs; run++) {
            new ModelRuns(firstSeed + run, wide).run(calls);
        }
        Kit.end("model: " + name);
    }

    private static List<Method> calls() {
        List<Method> found = new ArrayList<>();
        for (Method method : SpanTimetable.class.getDeclaredMethods()) {
            if (Modifier.isPublic(method.getModifiers())) {
                found.add(method);
            }
        }
        found.sort(Comparator.comparing(Method::getName));
        return found;
    }

    private void run(int calls) throws ReflectiveOperationException {
        int made = 0;
        while (made < calls) {
            if (made == 0 || random.nextInt(25) == 0) {
                made += loadSomeText(calls - made);
            } else {
                Method method = CALLS.get(random.nextInt(CALLS.size()));
                if (SEARCHES.contains(method.getName()) && model.mostGood() > MOST_GOOD) {
                    method = method("writeCycle");
                }
                if (!call(method, arguments(method))) {
                    return;
                }
                made++;
            }
        }
    }

    private int loadSomeText(int most) throws ReflectiveOperationException {
        byte[] text = (wide ? wideText() : text()).getBytes(StandardCharsets.ISO_8859_1);
        byte[] filled = Arrays.copyOf(text, (text.length + 19) / 20 * 20);
        int feeds = filled.length / 20;
        if (text.length > 500 || feeds + 1 > most) {
            return 1;
        }
        // An empty buffer first: what random feeds have left in it is no text.
        call(method("find"), new Object[] {0});
        for (int k = 0; k < filled.length; k += 20) {
            Object[] words = new Object[5];
            for (int w = 0; w < 5; w++) {
                words[w] = Kit.word(filled, k + 4 * w);
            }
            call(method("feed"), words);
        }
        boolean name = text.length < 9;
        call(method(name ? "find" : "load"), new Object[] {text.length});
        call(method("errorKind"), new Object[0]);
        call(method("errorPosition"), new Object[0]);
        return feeds + 4;
    }

    private static Method method(String name) {
        for (Method method : CALLS) {
            if (method.getName().equals(name)) {
                return method;
            }
        }
        throw new IllegalStateException(name);
    }

    private boolean call(Method method, Object[] arguments) throws ReflectiveOperationException {
        Object due = answer(model, Model.class.getMethod(method.getName(), method.getParameterTypes()), arguments);
        Object got = answer(real, method, arguments);
        log.add(method.getName() + Arrays.toString(arguments) + " " + got);
        boolean right = due.equals(got);
        if (!right) {
            Kit.fail("due is " + due + " for the last of " + log);
        }
        return right;
    }

    private static Object answer(Object object, Method method, Object[] arguments) throws ReflectiveOperationException {
        try {
            return method.invoke(object, arguments);
        } catch (InvocationTargetException wrapper) {
            return "throws." + wrapper.getCause().getClass().getSimpleName();
        }
    }

    private Object[] arguments(Method method) {
        Class<?>[] types = method.getParameterTypes();
        Object[] values = new Object[types.length];
        for (int k = 0; k < types.length; k++) {
            values[k] = types[k] == boolean.class ? random.nextBoolean() : argument(method.getName(), k);
        }
        if (method.getName().equals("setSpan") || method.getName().equals("addSpan")) {
            // Mostly a HIGH that goes with the LOW before it.
            int at = method.getName().equals("setSpan") ? 2 : 3;
            values[at] = (Integer) values[at - 1] + random.nextInt(real.period() + (random.nextInt(8) == 0 ? 3 : 0));
        }
        return values;
    }

    private int argument(String name, int place) {
        if (name.equals("shift") || name.equals("feed")) {
            return random.nextInt();
        }
        if (random.nextInt(20) == 0) {
            return WILD[random.nextInt(WILD.length)];
        }
        switch (name) {
            case "load":
            case "find":
                return random.nextInt(30);
            case "setPeriod":
                return 2 + random.nextInt(Math.min(23, real.period() + 2));
            case "written":
                return random.nextInt(wide ? 130 : 40);
            case "turns":
                return random.nextInt(place == 0 ? cyclesTold() : 3);
            case "span":
                return random.nextInt(place == 0 ? Math.max(1, real.spans()) : 5);
            case "share":
                return place == 0 ? random.nextInt(Math.max(1, real.spans())) : random.nextInt(1000);
            case "setWeight":
                return place == 0 ? random.nextInt(Math.max(1, real.spans())) : random.nextInt(21);
            case "cycleLength":
            case "cycleSpan":
            case "isForward":
            case "writeCycle":
                return random.nextInt(place == 0 ? cyclesTold() : 4);
            case "isAllowed":
                return random.nextInt(place == 2 ? real.period() + 1 : 1 + real.events());
            case "time":
            case "allowed":
                return random.nextInt(1 + real.events());
            case "move":
            case "costIf":
                return random.nextInt(place == 0 ? 1 + real.events() : real.period() + 1);
            case "addSpan":
                return random.nextInt(place < 2 ? 1 + real.events() : place == 2 ? 20 : 21);
            default:
                return random.nextInt(place == 0 ? 1 + real.spans() : 20);
        }
    }

    private int cyclesTold() {
        return wide ? 1 + model.cycles() : 4;
    }

    // ---- texts

    /** A legal text with numbers from all their ranges, long cycles and many spans. */
    private String wideText() {
        int period = 2 + random.nextInt(random.nextInt(3) == 0 ? 3 : 23);
        int events = 2 + random.nextInt(5);
        boolean large = random.nextBoolean();
        StringBuilder text = new StringBuilder("period " + period + ";");
        for (int event = 0; event < events; event++) {
            text.append("event ").append(wideName(event)).append(" ").append(random.nextInt(period)).append(";");
        }
        int spans = random.nextInt(3) == 0 ? events : random.nextInt(15);
        for (int span = 0; span < spans; span++) {
            // A chain first, closed at its end, so that cycles are long.
            int from = span < events ? span : random.nextInt(events);
            int to = span < events ? (span + 1) % events : (from + 1 + random.nextInt(events - 1)) % events;
            boolean turned = random.nextInt(large ? 8 : 2) == 0;
            int low = large ? 30 + random.nextInt(19) : random.nextInt(49);
            int high = low + random.nextInt(random.nextInt(3) == 0 ? period : (period + 2) / 3);
            text.append("span ").append(wideName(turned ? to : from)).append(" ").append(wideName(turned ? from : to));
            text.append(" ").append(low).append(" ").append(high).append(" ").append(random.nextInt(21)).append(";");
        }
        return text.toString();
    }

    private static String wideName(int event) {
        return "abcdefghijklmnop".substring(event, event + 1 + event % 3);
    }

    /** A text with few enough timetables for the model to try all of them; often with an error. */
    private String text() {
        int events = random.nextInt(7);
        int[] most = {24, 24, 24, 24, 10, 6, 4};
        int period = 2 + random.nextInt(most[events] - 1);
        StringBuilder text = new StringBuilder();
        text.append("period").append(blank(1)).append(period).append(blank(0)).append(";").append(blank(0));
        List<String> names = new ArrayList<>();
        for (int event = 0; event < events; event++) {
            String name = name(event);
            names.add(name);
            text.append("event").append(blank(1)).append(name).append(blank(0));
            text.append(random.nextInt(period)).append(";").append(blank(0));
        }
        int spans = events < 2 ? 0 : random.nextInt(random.nextInt(4) == 0 ? 15 : 6);
        for (int span = 0; span < spans; span++) {
            appendSpan(text, names, period);
        }
        if (random.nextInt(3) == 0) {
            damage(text);
        }
        return text.toString();
    }

    private String name(int event) {
        String[] all = {"a", "period", "span", "event", "zzzzzzzz", "bc"};
        return all[event];
    }

    private void appendSpan(StringBuilder text, List<String> names, int period) {
        int from = random.nextInt(names.size());
        int to = (from + 1 + random.nextInt(names.size() - 1)) % names.size();
        int low = random.nextInt(random.nextInt(4) == 0 ? 49 : 12);
        int high = low + (random.nextBoolean() ? random.nextInt(period) : period - 1 - random.nextInt((period + 2) / 3));
        text.append("span ").append(names.get(from)).append(" ").append(names.get(to)).append(blank(0));
        text.append(low).append(" ").append(high);
        if (random.nextBoolean()) {
            text.append(" ").append(random.nextInt(3) == 0 ? 0 : random.nextInt(21));
        }
        text.append(";").append(blank(0));
    }

    private String blank(int least) {
        int count = Math.max(least, random.nextInt(6) - 4);
        return random.nextInt(4) == 0 ? "\n".repeat(count) : " ".repeat(count);
    }

    private void damage(StringBuilder text) {
        String signs = "az059 ;\n-\t\0\u00e9A{`/:";
        String[] words = {"event ", "span ", "period ", " 99", " a ", ";", "event x 0;", " 100 ", "abcdefghi", " 00 "};
        int at = random.nextInt(text.length() + 1);
        switch (random.nextInt(5)) {
            case 0:
                text.setLength(at);
                break;
            case 1:
                text.insert(at, words[random.nextInt(words.length)]);
                break;
            case 2:
                text.insert(at, signs.charAt(random.nextInt(signs.length())));
                break;
            case 3:
                text.delete(at, Math.min(text.length(), at + 1 + random.nextInt(6)));
                break;
            default:
                if (at < text.length()) {
                    text.setCharAt(at, signs.charAt(random.nextInt(signs.length())));
                }
        }
    }
}
