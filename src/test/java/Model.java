import java.nio.charset.StandardCharsets;
import java.util.ArrayDeque;
import java.util.ArrayList;
import java.util.Arrays;
import java.util.Comparator;
import java.util.Deque;
import java.util.List;
import java.util.NoSuchElementException;
import java.util.TreeSet;
import java.util.regex.Matcher;
import java.util.regex.Pattern;

/**
 * The document once more, as plainly as it can be said and without regard to speed: the good
 * timetables are found by trying all of them. ModelRuns compares its answers with the class's.
 */
public final class Model {
    record Span(int from, int to, int low, int high, int weight) {
    }

    record State(int period, List<String> names, List<Integer> times, List<Span> spans) {
        int slackOf(Span span) {
            return Math.floorMod(times.get(span.to) - times.get(span.from) - span.low, period);
        }

        boolean keeps(Span span) {
            return span.low + slackOf(span) <= span.high;
        }

        int countBroken() {
            return (int) spans.stream().filter(span -> !keeps(span)).count();
        }

        int sumCosts() {
            return spans.stream().mapToInt(span -> span.weight * slackOf(span)).sum();
        }

        State withTimes(List<Integer> newTimes) {
            return new State(period, names, List.copyOf(newTimes), spans);
        }

        State withTime(int event, int time) {
            List<Integer> changed = new ArrayList<>(times);
            changed.set(event, time);
            return withTimes(changed);
        }

        State withSpan(int number, Span span) {
            List<Span> changed = new ArrayList<>(spans);
            if (span == null) {
                changed.remove(number);
            } else if (number == changed.size()) {
                changed.add(span);
            } else {
                changed.set(number, span);
            }
            return new State(period, names, times, List.copyOf(changed));
        }
    }

    private static final class TextError extends Exception {
        private static final long serialVersionUID = 1L;
        final int kind;
        final int position;

        TextError(int kind, int position) {
            this.kind = kind;
            this.position = position;
        }
    }

    private final List<Byte> buffer = new ArrayList<>();
    private State now = new State(12, List.of(), List.of(), List.of());
    private final Deque<State> before = new ArrayDeque<>();
    private int kind = 0;
    private int position = -1;
    private String output = "";

    // ---- text

    public int feed(int a, int b, int c, int d, int e) {
        if (buffer.size() + 20 > 500) {
            return -2;
        }
        for (int word : new int[] {a, b, c, d, e}) {
            for (int k = 3; k >= 0; k--) {
                buffer.add((byte) (word >> 8 * k));
            }
        }
        return buffer.size();
    }

    private String take(int length) {
        range(length, 0, buffer.size());
        byte[] bytes = new byte[length];
        for (int k = 0; k < length; k++) {
            bytes[k] = buffer.get(k);
        }
        buffer.clear();
        return new String(bytes, StandardCharsets.ISO_8859_1);
    }

    public int load(int length) {
        String text = take(length);
        try {
            now = new Parser(text).parse();
        } catch (TextError error) {
            kind = error.kind;
            position = error.position;
            return -3;
        }
        kind = 0;
        position = -1;
        before.clear();
        return now.spans.size();
    }

    /** Asks each token for what may stand at its place. */
    private static final class Parser {
        private final String text;
        private final Matcher tokens;
        private String token;
        private int at;

        Parser(String text) {
            this.text = text;
            tokens = Pattern.compile("[a-z]+|[0-9]+|[^ \\n]", Pattern.DOTALL).matcher(text);
            advance();
        }

        private void advance() {
            boolean more = tokens.find();
            token = more ? tokens.group() : "";
            at = more ? tokens.start() : text.length();
        }

        private TextError error(int kind) {
            return new TextError(kind, at);
        }

        private String expect(String form) throws TextError {
            if (!token.isEmpty() && !token.matches("[a-z]{1,8}|[0-9]{1,2}|;")) {
                throw error(1);
            }
            if (!token.matches(form)) {
                throw error(2);
            }
            return token;
        }

        private int expectNumber(int least, int most) throws TextError {
            int number = Integer.parseInt(expect("[0-9]+"));
            if (number < least || number > most) {
                throw error(3);
            }
            advance();
            return number;
        }

        private String expectName(List<String> names, boolean known, String except) throws TextError {
            String name = expect("[a-z]+");
            if (names.contains(name) != known || name.equals(except)) {
                throw error(4);
            }
            advance();
            return name;
        }

        private void expectEnd() throws TextError {
            expect(";");
            advance();
        }

        State parse() throws TextError {
            List<String> names = new ArrayList<>();
            List<Integer> times = new ArrayList<>();
            List<Span> spans = new ArrayList<>();
            int period = 12;
            if (!token.isEmpty()) {
                expect("period");
                advance();
                period = expectNumber(2, 24);
                expectEnd();
            }
            while (!token.isEmpty()) {
                if (expect("event|span").equals("event")) {
                    if (names.size() == 6) {
                        throw error(5);
                    }
                    advance();
                    names.add(expectName(names, false, null));
                    times.add(expectNumber(0, period - 1));
                } else {
                    if (spans.size() == 14) {
                        throw error(5);
                    }
                    advance();
                    String from = expectName(names, true, null);
                    String to = expectName(names, true, from);
                    int low = expectNumber(0, 48);
                    int high = expectNumber(low, low + period - 1);
                    int weight = expect("[0-9]+|;").equals(";") ? 1 : expectNumber(0, 20);
                    spans.add(new Span(names.indexOf(from), names.indexOf(to), low, high, weight));
                }
                expectEnd();
            }
            return new State(period, List.copyOf(names), List.copyOf(times), List.copyOf(spans));
        }
    }

    public int errorKind() {
        return kind;
    }

    public int errorPosition() {
        return position;
    }

    // ---- what was told

    public int period() {
        return now.period;
    }

    public int events() {
        return now.times.size();
    }

    public int spans() {
        return now.spans.size();
    }

    public int find(int length) {
        return now.names.indexOf(take(length));
    }

    public int time(int event) {
        index(event, events());
        return now.times.get(event);
    }

    public int span(int span, int what) {
        index(span, spans());
        range(what, 0, 4);
        Span it = now.spans.get(span);
        return new int[] {it.from, it.to, it.low, it.high, it.weight}[what];
    }

    // ---- durations

    public int duration(int span) {
        index(span, spans());
        return now.spans.get(span).low + now.slackOf(now.spans.get(span));
    }

    public int slack(int span) {
        index(span, spans());
        return now.slackOf(now.spans.get(span));
    }

    public boolean isKept(int span) {
        index(span, spans());
        return now.keeps(now.spans.get(span));
    }

    public int broken() {
        return now.countBroken();
    }

    public int firstBroken() {
        for (int span = 0; span < spans(); span++) {
            if (!isKept(span)) {
                return span;
            }
        }
        throw new NoSuchElementException();
    }

    public int cost() {
        return now.sumCosts();
    }

    private int sumWeights() {
        return now.spans.stream().mapToInt(Span::weight).sum();
    }

    public float meanSlack() {
        return sumWeights() == 0 ? 0 : (float) cost() / (float) sumWeights();
    }

    // ---- differences

    private List<List<TreeSet<Integer>>> told() {
        List<List<TreeSet<Integer>>> sets = new ArrayList<>();
        for (int a = 0; a < events(); a++) {
            sets.add(new ArrayList<>());
            for (int b = 0; b < events(); b++) {
                TreeSet<Integer> set = new TreeSet<>();
                for (int d = 0; d < period(); d++) {
                    if (a == b ? d == 0 : spansAllow(a, b, d)) {
                        set.add(d);
                    }
                }
                sets.get(a).add(set);
            }
        }
        return sets;
    }

    private boolean spansAllow(int a, int b, int d) {
        for (Span span : now.spans) {
            List<Integer> times = new ArrayList<>(now.times);
            times.set(a, 0);
            times.set(b, d);
            boolean between = span.from == a && span.to == b || span.from == b && span.to == a;
            if (between && !now.withTimes(times).keeps(span)) {
                return false;
            }
        }
        return true;
    }

    private int makeRounds(List<List<TreeSet<Integer>>> sets) {
        for (int round = 1;; round++) {
            boolean changed = false;
            for (int c = 0; c < events(); c++) {
                for (int a = 0; a < events(); a++) {
                    for (int b = 0; b < events(); b++) {
                        if (a != b && b != c && c != a) {
                            changed |= keepSums(sets, c, a, b);
                        }
                    }
                }
            }
            if (!changed) {
                return round;
            }
        }
    }

    private boolean keepSums(List<List<TreeSet<Integer>>> sets, int c, int a, int b) {
        TreeSet<Integer> sums = new TreeSet<>();
        for (int x : sets.get(a).get(c)) {
            for (int y : sets.get(c).get(b)) {
                sums.add((x + y) % period());
            }
        }
        boolean changed = sets.get(a).get(b).retainAll(sums);
        sets.get(b).get(a).clear();
        for (int d : sets.get(a).get(b)) {
            sets.get(b).get(a).add(Math.floorMod(-d, period()));
        }
        return changed;
    }

    private List<List<TreeSet<Integer>>> tightened() {
        List<List<TreeSet<Integer>>> sets = told();
        makeRounds(sets);
        return sets;
    }

    public int allowed(int from, int to, boolean tightened) {
        index(from, events());
        index(to, events());
        return (tightened ? tightened() : told()).get(from).get(to).size();
    }

    public boolean isAllowed(int from, int to, int difference) {
        index(from, events());
        index(to, events());
        range(difference, 0, period() - 1);
        return tightened().get(from).get(to).contains(difference);
    }

    public int rounds() {
        return makeRounds(told());
    }

    public boolean isTight() {
        return tightened().stream().allMatch(row -> row.stream().noneMatch(TreeSet::isEmpty));
    }

    public int bound(int span, boolean highest) {
        index(span, spans());
        Span it = now.spans.get(span);
        TreeSet<Integer> durations = new TreeSet<>();
        for (int d : tightened().get(it.from).get(it.to)) {
            durations.add(it.low + Math.floorMod(d - it.low, period()));
        }
        if (durations.isEmpty()) {
            throw new NoSuchElementException();
        }
        return highest ? durations.last() : durations.first();
    }

    // ---- cycles

    private record Step(int span, boolean forward) {
    }

    private List<List<Step>> allCycles() {
        List<List<Step>> cycles = new ArrayList<>();
        List<Integer> tree = new ArrayList<>();
        for (int span = 0; span < spans(); span++) {
            Span it = now.spans.get(span);
            List<Step> way = way(tree, it.to, it.from, -1);
            if (way == null) {
                tree.add(span);
            } else {
                way.add(0, new Step(span, true));
                cycles.add(way);
            }
        }
        return cycles;
    }

    private List<Step> way(List<Integer> tree, int start, int goal, int came) {
        if (start == goal) {
            return new ArrayList<>();
        }
        for (int span : tree) {
            Span it = now.spans.get(span);
            if (span != came && (it.from == start || it.to == start)) {
                boolean forward = it.from == start;
                List<Step> rest = way(tree, forward ? it.to : it.from, goal, span);
                if (rest != null) {
                    rest.add(0, new Step(span, forward));
                    return rest;
                }
            }
        }
        return null;
    }

    public int cycles() {
        return allCycles().size();
    }

    private List<Step> cycle(int cycle) {
        index(cycle, cycles());
        return allCycles().get(cycle);
    }

    private Step step(int cycle, int step) {
        index(step, cycle(cycle).size());
        return cycle(cycle).get(step);
    }

    public int cycleLength(int cycle) {
        return cycle(cycle).size();
    }

    public int cycleSpan(int cycle, int step) {
        return step(cycle, step).span;
    }

    public boolean isForward(int cycle, int step) {
        return step(cycle, step).forward;
    }

    public int turns(int cycle, int what) {
        int durations = 0;
        int least = 0;
        int most = 0;
        for (Step step : cycle(cycle)) {
            Span it = now.spans.get(step.span);
            durations += step.forward ? duration(step.span) : -duration(step.span);
            least += step.forward ? it.low : -it.high;
            most += step.forward ? it.high : -it.low;
        }
        range(what, 0, 2);
        return switch (what) {
            case 0 -> durations / period();
            case 1 -> (int) Math.ceil((double) least / period());
            default -> (int) Math.floor((double) most / period());
        };
    }

    public int firstImpossible() {
        for (int cycle = 0; cycle < cycles(); cycle++) {
            if (turns(cycle, 1) > turns(cycle, 2)) {
                return cycle;
            }
        }
        throw new NoSuchElementException();
    }

    // ---- good timetables

    /** No more timetables than this are good; an event's time follows from a span to one before it. */
    long mostGood() {
        long most = 1;
        for (int event = 1; event < events(); event++) {
            int ways = period();
            for (Span span : now.spans) {
                if (Math.max(span.from, span.to) == event) {
                    ways = Math.min(ways, span.high - span.low + 1);
                }
            }
            most *= ways;
        }
        return most;
    }

    /** Tries the timetables in their order; a way is left where a span is broken. */
    private static final class Trial {
        private final State state;
        private final Integer[] times;
        State first = null;
        State cheapest = null;

        Trial(State state) {
            this.state = state;
            times = new Integer[state.times.size()];
            place(0);
        }

        private void place(int event) {
            if (event == times.length) {
                State found = state.withTimes(Arrays.asList(times));
                first = first == null ? found : first;
                cheapest = cheapest == null || found.sumCosts() < cheapest.sumCosts() ? found : cheapest;
                return;
            }
            int held = event == 0 ? state.times.get(0) : -1;
            for (int time = 0; time < state.period; time++) {
                times[event] = time;
                if ((held < 0 || time == held) && keepsAllTo(event)) {
                    place(event + 1);
                }
            }
        }

        private boolean keepsAllTo(int event) {
            for (Span span : state.spans) {
                if (Math.max(span.from, span.to) == event) {
                    int more = Math.floorMod(times[span.to] - times[span.from] - span.low, state.period);
                    if (span.low + more > span.high) {
                        return false;
                    }
                }
            }
            return true;
        }
    }

    private Trial someGood() {
        Trial trial = new Trial(now);
        if (trial.first == null) {
            throw new NoSuchElementException();
        }
        return trial;
    }

    private static boolean isSolvable(State state) {
        return new Trial(state).first != null;
    }

    public boolean isSolvable() {
        return isSolvable(now);
    }

    public int leastCost() {
        return someGood().cheapest.sumCosts();
    }

    public int costIf(int event, int time) {
        index(event, events());
        range(time, 0, period() - 1);
        return now.withTime(event, time).sumCosts();
    }

    public int canRaise(int span) {
        index(span, spans());
        Span it = now.spans.get(span);
        int most = -1;
        for (int raise = 0; raise <= it.high - it.low; raise++) {
            Span raised = new Span(it.from, it.to, it.low + raise, it.high, it.weight);
            if (isSolvable(now.withSpan(span, raised))) {
                most = raise;
            }
        }
        return most;
    }

    public boolean isCritical(int span) {
        index(span, spans());
        return !isSolvable(now) && isSolvable(now.withSpan(span, null));
    }

    public int share(int span, int amount) {
        index(span, spans());
        range(amount, 0, 999);
        int sum = sumWeights();
        if (sum == 0) {
            return 0;
        }
        int[] shares = new int[spans()];
        List<Integer> order = new ArrayList<>();
        int left = amount;
        for (int k = 0; k < spans(); k++) {
            shares[k] = amount * now.spans.get(k).weight / sum;
            left -= shares[k];
            order.add(k);
        }
        order.sort(Comparator.comparing((Integer k) -> -(amount * now.spans.get(k).weight % sum)));
        for (int k = 0; k < left; k++) {
            shares[order.get(k)]++;
        }
        return shares[span];
    }

    // ---- edits

    private void edit(State next) {
        before.push(now);
        if (before.size() > 10) {
            before.removeLast();
        }
        now = next;
    }

    public int move(int event, int time) {
        index(event, events());
        range(time, 0, period() - 1);
        edit(now.withTime(event, time));
        return broken();
    }

    public int shift(int by) {
        List<Integer> times = new ArrayList<>();
        for (int time : now.times) {
            times.add((int) Math.floorMod((long) time + by, (long) period()));
        }
        edit(now.withTimes(times));
        return times.isEmpty() ? -1 : times.get(0);
    }

    public int setSpan(int span, int low, int high) {
        index(span, spans());
        range(low, 0, 48);
        range(high, low, low + period() - 1);
        Span it = now.spans.get(span);
        edit(now.withSpan(span, new Span(it.from, it.to, low, high, it.weight)));
        return duration(span);
    }

    public int setWeight(int span, int weight) {
        index(span, spans());
        range(weight, 0, 20);
        Span it = now.spans.get(span);
        edit(now.withSpan(span, new Span(it.from, it.to, it.low, it.high, weight)));
        return it.weight;
    }

    public int addSpan(int from, int to, int low, int high, int weight) {
        index(from, events());
        index(to, events());
        range(low, 0, 48);
        range(high, low, low + period() - 1);
        range(weight, 0, 20);
        range(from == to ? 1 : 0, 0, 0);
        if (spans() == 14) {
            throw new IllegalStateException();
        }
        edit(now.withSpan(spans(), new Span(from, to, low, high, weight)));
        return spans() - 1;
    }

    public int removeSpan(int span) {
        index(span, spans());
        edit(now.withSpan(span, null));
        return spans();
    }

    public int setPeriod(int period) {
        range(period, 2, 24);
        if (now.spans.stream().anyMatch(span -> span.high > span.low + period - 1)) {
            throw new IllegalStateException();
        }
        int previous = now.period;
        List<Integer> times = now.times.stream().map(time -> time % period).toList();
        edit(new State(period, now.names, times, now.spans));
        return previous;
    }

    public int solve() {
        edit(someGood().first);
        return cost();
    }

    public int cheapen() {
        edit(someGood().cheapest);
        return cost();
    }

    public int improve() {
        Comparator<State> order = Comparator.comparing(State::countBroken).thenComparing(State::sumCosts);
        State state = now;
        for (int moves = 0;; moves++) {
            State best = state;
            for (int event = 0; event < events(); event++) {
                for (int time = 0; time < period(); time++) {
                    State other = state.withTime(event, time);
                    best = order.compare(other, best) < 0 ? other : best;
                }
            }
            if (best == state) {
                edit(state);
                return moves;
            }
            state = best;
        }
    }

    public int undo() {
        if (before.isEmpty()) {
            return -1;
        }
        now = before.pop();
        return before.size();
    }

    // ---- output

    public int write() {
        List<String> parts = new ArrayList<>();
        for (int event = 0; event < events(); event++) {
            parts.add(now.names.get(event) + "=" + time(event));
        }
        StringBuilder text = new StringBuilder(String.join(" ", parts));
        for (int span = 0; span < spans(); span++) {
            text.append(isKept(span) ? "" : " !" + span);
        }
        output = text.toString();
        return output.length();
    }

    public int writeCycle(int cycle) {
        StringBuilder text = new StringBuilder();
        for (Step step : cycle(cycle)) {
            text.append(step.forward ? "+" : "-").append(step.span);
        }
        output = text.append("=").append(turns(cycle, 0)).toString();
        return output.length();
    }

    public char written(int k) {
        index(k, output.length());
        return output.charAt(k);
    }

    private static void index(int index, int count) {
        if (index < 0 || index >= count) {
            throw new IndexOutOfBoundsException();
        }
    }

    private static void range(int number, int least, int most) {
        if (number < least || number > most) {
            throw new IllegalArgumentException();
        }
    }
}
