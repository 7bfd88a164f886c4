import java.util.NoSuchElementException;

/**
 * A timetable that repeats with a period. Events have times modulo the period; spans between two
 * events have a lowest and a highest duration and a weight.
 *
 * <p>All rows are made once, in the constructors, and used again by every call: no call makes an
 * object other than the exception that it throws.
 */
public final class SpanTimetable {
    public static final int NONE = -1;
    public static final int FULL = -2;
    public static final int BAD_TEXT = -3;

    private static final int MAX_TEXT = 500;
    private static final int MAX_EVENTS = 6;
    private static final int MAX_SPANS = 14;
    private static final int MAX_WORD = 8;
    private static final int MAX_DIGITS = 2;
    private static final int MIN_PERIOD = 2;
    private static final int MAX_PERIOD = 24;
    private static final int DEFAULT_PERIOD = 12;
    private static final int MAX_LOW = 48;
    private static final int MAX_WEIGHT = 20;
    private static final int DEFAULT_WEIGHT = 1;
    private static final int MAX_AMOUNT = 999;
    private static final int MAX_EDITS = 10;
    private static final int MAX_OUTPUT = 160;
    private static final int PAIRS = MAX_EVENTS * MAX_EVENTS;

    private final byte[] buffer = new byte[MAX_TEXT];
    private int buffered = 0;
    private final Reader reader = new Reader();
    private final Names names = new Names();
    private final Plan plan = new Plan();
    private final Plan trial = new Plan();
    private final History history = new History();
    private final Differences differences = new Differences();
    private final Cycles loops = new Cycles();
    private final Search search = new Search();
    private final Page page = new Page();

    public SpanTimetable() {
    }

    // ---- text

    public int feed(int a, int b, int c, int d, int e) {
        if (buffered > MAX_TEXT - 20) {
            return FULL;
        }
        appendBytes(a);
        appendBytes(b);
        appendBytes(c);
        appendBytes(d);
        appendBytes(e);
        return buffered;
    }

    private void appendBytes(int four) {
        for (int shift = 24; shift >= 0 && buffered < MAX_TEXT; shift -= 8) {
            buffer[buffered] = (byte) (four >>> shift);
            buffered++;
        }
    }

    public int load(int length) throws IllegalArgumentException {
        requireRange(length, 0, buffered);
        buffered = 0;
        if (!reader.accepts(buffer, length)) {
            return BAD_TEXT;
        }
        plan.copyFrom(reader.plan);
        names.copyFrom(reader.names);
        history.clear();
        return plan.spanCount;
    }

    public int errorKind() {
        return reader.faultKind;
    }

    public int errorPosition() {
        return reader.faultPosition;
    }

    // ---- what was told

    public int period() {
        return plan.period;
    }

    public int events() {
        return plan.eventCount;
    }

    public int spans() {
        return plan.spanCount;
    }

    public int find(int length) throws IllegalArgumentException {
        requireRange(length, 0, buffered);
        buffered = 0;
        return names.indexOf(buffer, 0, length);
    }

    public int time(int event) throws IndexOutOfBoundsException {
        requireEvent(event);
        return plan.times[event];
    }

    public int span(int span, int what) throws IndexOutOfBoundsException, IllegalArgumentException {
        requireSpan(span);
        switch (what) {
            case 0:
                return plan.froms[span];
            case 1:
                return plan.tos[span];
            case 2:
                return plan.lows[span];
            case 3:
                return plan.highs[span];
            case 4:
                return plan.weights[span];
            default:
                throw new IllegalArgumentException("what is 0 to 4");
        }
    }

    // ---- durations

    public int duration(int span) throws IndexOutOfBoundsException {
        requireSpan(span);
        return plan.lows[span] + plan.slackOf(span);
    }

    public int slack(int span) throws IndexOutOfBoundsException {
        requireSpan(span);
        return plan.slackOf(span);
    }

    public boolean isKept(int span) throws IndexOutOfBoundsException {
        requireSpan(span);
        return plan.keeps(span);
    }

    public int broken() {
        return plan.countBroken();
    }

    public int firstBroken() throws NoSuchElementException {
        for (int span = 0; span < plan.spanCount; span++) {
            if (!plan.keeps(span)) {
                return span;
            }
        }
        throw new NoSuchElementException("no span is broken");
    }

    public int cost() {
        return plan.sumCosts();
    }

    public float meanSlack() {
        int weights = plan.sumWeights();
        return weights <= 0 ? 0f : (float) plan.sumCosts() / (float) weights;
    }

    // ---- differences

    public int allowed(int from, int to, boolean tightened) throws IndexOutOfBoundsException {
        requireEvent(from);
        requireEvent(to);
        differences.startFrom(plan);
        if (tightened) {
            differences.tighten();
        }
        return Integer.bitCount(differences.between(from, to));
    }

    public boolean isAllowed(int from, int to, int difference)
            throws IndexOutOfBoundsException, IllegalArgumentException {
        requireEvent(from);
        requireEvent(to);
        requireRange(difference, 0, plan.period - 1);
        tightenDifferences();
        return differences.allows(from, to, difference);
    }

    public int rounds() {
        tightenDifferences();
        return differences.roundsMade;
    }

    public boolean isTight() {
        tightenDifferences();
        return !differences.hasEmptySet();
    }

    public int bound(int span, boolean highest) throws IndexOutOfBoundsException, NoSuchElementException {
        requireSpan(span);
        tightenDifferences();
        int low = plan.lows[span];
        for (int step = 0; step < plan.period; step++) {
            int duration = highest ? low + plan.period - 1 - step : low + step;
            if (differences.allows(plan.froms[span], plan.tos[span], modulo(duration, plan.period))) {
                return duration;
            }
        }
        throw new NoSuchElementException("no difference is allowed");
    }

    private void tightenDifferences() {
        differences.startFrom(plan);
        differences.tighten();
    }

    // ---- cycles

    public int cycles() {
        loops.closeAll(plan);
        return loops.count;
    }

    public int cycleLength(int cycle) throws IndexOutOfBoundsException {
        requireCycle(cycle);
        return loops.lengths[cycle];
    }

    public int cycleSpan(int cycle, int step) throws IndexOutOfBoundsException {
        requireStep(cycle, step);
        return loops.steps[cycle][step];
    }

    public boolean isForward(int cycle, int step) throws IndexOutOfBoundsException {
        requireStep(cycle, step);
        return loops.signs[cycle][step] > 0;
    }

    public int turns(int cycle, int what) throws IndexOutOfBoundsException, IllegalArgumentException {
        requireCycle(cycle);
        switch (what) {
            case 0:
                return loops.turnsNow(plan, cycle);
            case 1:
                return loops.leastTurns(plan, cycle);
            case 2:
                return loops.mostTurns(plan, cycle);
            default:
                throw new IllegalArgumentException("what is 0 to 2");
        }
    }

    public int firstImpossible() throws NoSuchElementException {
        loops.closeAll(plan);
        for (int cycle = 0; cycle < loops.count; cycle++) {
            if (loops.leastTurns(plan, cycle) > loops.mostTurns(plan, cycle)) {
                return cycle;
            }
        }
        throw new NoSuchElementException("every cycle can be");
    }

    // ---- what would be; nothing changes

    public boolean isSolvable() {
        return search.findGood(plan, true);
    }

    public int leastCost() throws NoSuchElementException {
        requireGood(search.findGood(plan, false));
        return search.bestCost;
    }

    public int costIf(int event, int time) throws IndexOutOfBoundsException, IllegalArgumentException {
        requireEvent(event);
        requireRange(time, 0, plan.period - 1);
        trial.copyFrom(plan);
        trial.times[event] = time;
        return trial.sumCosts();
    }

    public int canRaise(int span) throws IndexOutOfBoundsException {
        requireSpan(span);
        if (!search.findGood(plan, true)) {
            return NONE;
        }
        trial.copyFrom(plan);
        for (int raise = plan.highs[span] - plan.lows[span]; raise > 0; raise--) {
            trial.lows[span] = plan.lows[span] + raise;
            if (search.findGood(trial, true)) {
                return raise;
            }
        }
        return 0;
    }

    public boolean isCritical(int span) throws IndexOutOfBoundsException {
        requireSpan(span);
        if (search.findGood(plan, true)) {
            return false;
        }
        trial.copyFrom(plan);
        trial.dropSpan(span);
        return search.findGood(trial, true);
    }

    public int share(int span, int amount) throws IndexOutOfBoundsException, IllegalArgumentException {
        requireSpan(span);
        requireRange(amount, 0, MAX_AMOUNT);
        int sum = plan.sumWeights();
        if (sum <= 0) {
            return 0;
        }
        int left = amount;
        int ahead = 0;
        int ownRemainder = amount * plan.weights[span] % sum;
        for (int other = 0; other < plan.spanCount; other++) {
            int product = amount * plan.weights[other];
            left -= product / sum;
            int remainder = product % sum;
            if (remainder > ownRemainder || remainder == ownRemainder && other < span) {
                ahead++;
            }
        }
        return amount * plan.weights[span] / sum + (ahead < left ? 1 : 0);
    }

    // ---- edits

    public int move(int event, int time) throws IndexOutOfBoundsException, IllegalArgumentException {
        requireEvent(event);
        requireRange(time, 0, plan.period - 1);
        history.remember(plan);
        plan.times[event] = time;
        return plan.countBroken();
    }

    public int shift(int by) {
        history.remember(plan);
        int step = modulo(by, plan.period);
        for (int event = 0; event < plan.eventCount; event++) {
            plan.times[event] = modulo(plan.times[event] + step, plan.period);
        }
        return plan.eventCount > 0 ? plan.times[0] : NONE;
    }

    public int setSpan(int span, int low, int high) throws IndexOutOfBoundsException, IllegalArgumentException {
        requireSpan(span);
        requireDurations(low, high);
        history.remember(plan);
        plan.lows[span] = low;
        plan.highs[span] = high;
        return low + plan.slackOf(span);
    }

    public int setWeight(int span, int weight) throws IndexOutOfBoundsException, IllegalArgumentException {
        requireSpan(span);
        requireRange(weight, 0, MAX_WEIGHT);
        history.remember(plan);
        int previous = plan.weights[span];
        plan.weights[span] = weight;
        return previous;
    }

    public int addSpan(int from, int to, int low, int high, int weight)
            throws IndexOutOfBoundsException, IllegalArgumentException, IllegalStateException {
        requireEvent(from);
        requireEvent(to);
        requireDurations(low, high);
        requireRange(weight, 0, MAX_WEIGHT);
        if (from == to) {
            throw new IllegalArgumentException("a span goes to another event");
        }
        if (plan.spanCount >= MAX_SPANS) {
            throw new IllegalStateException("there are 14 spans");
        }
        history.remember(plan);
        plan.appendSpan(from, to, low, high, weight);
        return plan.spanCount - 1;
    }

    public int removeSpan(int span) throws IndexOutOfBoundsException {
        requireSpan(span);
        history.remember(plan);
        plan.dropSpan(span);
        return plan.spanCount;
    }

    public int setPeriod(int period) throws IllegalArgumentException, IllegalStateException {
        requireRange(period, MIN_PERIOD, MAX_PERIOD);
        for (int span = 0; span < plan.spanCount; span++) {
            if (plan.highs[span] > plan.lows[span] + period - 1) {
                throw new IllegalStateException("HIGH of a span is too great for the period");
            }
        }
        history.remember(plan);
        int previous = plan.period;
        plan.period = period;
        for (int event = 0; event < plan.eventCount; event++) {
            plan.times[event] = modulo(plan.times[event], period);
        }
        return previous;
    }

    public int solve() throws NoSuchElementException {
        requireGood(search.findGood(plan, true));
        return takeBest();
    }

    public int cheapen() throws NoSuchElementException {
        requireGood(search.findGood(plan, false));
        return takeBest();
    }

    private int takeBest() {
        history.remember(plan);
        System.arraycopy(search.bestTimes, 0, plan.times, 0, plan.eventCount);
        return search.bestCost;
    }

    public int improve() {
        history.remember(plan);
        int moves = 0;
        // Each move lowers (broken, cost): fewer than 15 * 6441 can follow one another.
        while (moves < 100_000 && plan.moveBest()) {
            moves++;
        }
        return moves;
    }

    public int undo() {
        return history.restore(plan);
    }

    // ---- output

    public int write() {
        page.clear();
        for (int event = 0; event < plan.eventCount; event++) {
            if (event > 0) {
                page.put(' ');
            }
            names.putOn(page, event);
            page.put('=');
            page.putNumber(plan.times[event]);
        }
        for (int span = 0; span < plan.spanCount; span++) {
            if (!plan.keeps(span)) {
                page.put(' ');
                page.put('!');
                page.putNumber(span);
            }
        }
        return page.length;
    }

    public int writeCycle(int cycle) throws IndexOutOfBoundsException {
        requireCycle(cycle);
        page.clear();
        for (int step = 0; step < loops.lengths[cycle]; step++) {
            page.put(loops.signs[cycle][step] > 0 ? '+' : '-');
            page.putNumber(loops.steps[cycle][step]);
        }
        page.put('=');
        page.putNumber(loops.turnsNow(plan, cycle));
        return page.length;
    }

    public char written(int k) throws IndexOutOfBoundsException {
        if (k < 0 || k >= page.length) {
            throw new IndexOutOfBoundsException("no such character");
        }
        return page.signs[k];
    }

    // ---- what calls are refused for

    private void requireEvent(int event) {
        if (event < 0 || event >= plan.eventCount) {
            throw new IndexOutOfBoundsException("no such event");
        }
    }

    private void requireSpan(int span) {
        if (span < 0 || span >= plan.spanCount) {
            throw new IndexOutOfBoundsException("no such span");
        }
    }

    /** Leaves the cycles closed, for the caller to ask. */
    private void requireCycle(int cycle) {
        loops.closeAll(plan);
        if (cycle < 0 || cycle >= loops.count) {
            throw new IndexOutOfBoundsException("no such cycle");
        }
    }

    private void requireStep(int cycle, int step) {
        requireCycle(cycle);
        if (step < 0 || step >= loops.lengths[cycle]) {
            throw new IndexOutOfBoundsException("no such step");
        }
    }

    private static void requireRange(int number, int least, int most) {
        if (number < least || number > most) {
            throw new IllegalArgumentException("a number is out of its range");
        }
    }

    private void requireDurations(int low, int high) {
        requireRange(low, 0, MAX_LOW);
        requireRange(high, low, low + plan.period - 1);
    }

    private static void requireGood(boolean found) {
        if (!found) {
            throw new NoSuchElementException("there is no good timetable");
        }
    }

    private static int modulo(int number, int period) {
        if (period < 1) {
            return 0;
        }
        int rest = number % period;
        return rest < 0 ? rest + period : rest;
    }

    /** What edits change and undo brings back: the period, the times and the spans. */
    private static final class Plan {
        int period = DEFAULT_PERIOD;
        int eventCount = 0;
        int spanCount = 0;
        final int[] times = new int[MAX_EVENTS];
        final int[] froms = new int[MAX_SPANS];
        final int[] tos = new int[MAX_SPANS];
        final int[] lows = new int[MAX_SPANS];
        final int[] highs = new int[MAX_SPANS];
        final int[] weights = new int[MAX_SPANS];

        void startWith(int newPeriod) {
            period = newPeriod;
            eventCount = 0;
            spanCount = 0;
        }

        void copyFrom(Plan other) {
            period = other.period;
            eventCount = other.eventCount;
            spanCount = other.spanCount;
            System.arraycopy(other.times, 0, times, 0, MAX_EVENTS);
            System.arraycopy(other.froms, 0, froms, 0, MAX_SPANS);
            System.arraycopy(other.tos, 0, tos, 0, MAX_SPANS);
            System.arraycopy(other.lows, 0, lows, 0, MAX_SPANS);
            System.arraycopy(other.highs, 0, highs, 0, MAX_SPANS);
            System.arraycopy(other.weights, 0, weights, 0, MAX_SPANS);
        }

        void appendEvent(int time) {
            if (eventCount < MAX_EVENTS) {
                times[eventCount] = time;
                eventCount++;
            }
        }

        void appendSpan(int from, int to, int low, int high, int weight) {
            if (spanCount < MAX_SPANS) {
                froms[spanCount] = from;
                tos[spanCount] = to;
                lows[spanCount] = low;
                highs[spanCount] = high;
                weights[spanCount] = weight;
                spanCount++;
            }
        }

        void dropSpan(int span) {
            spanCount--;
            for (int behind = span; behind < spanCount; behind++) {
                froms[behind] = froms[behind + 1];
                tos[behind] = tos[behind + 1];
                lows[behind] = lows[behind + 1];
                highs[behind] = highs[behind + 1];
                weights[behind] = weights[behind + 1];
            }
        }

        int slackOf(int span) {
            return slackWith(span, times[tos[span]] - times[froms[span]]);
        }

        int slackWith(int span, int difference) {
            return modulo(difference - lows[span], period);
        }

        boolean keeps(int span) {
            return lows[span] + slackOf(span) <= highs[span];
        }

        int countBroken() {
            int count = 0;
            for (int span = 0; span < spanCount; span++) {
                if (!keeps(span)) {
                    count++;
                }
            }
            return count;
        }

        int sumCosts() {
            int sum = 0;
            for (int span = 0; span < spanCount; span++) {
                sum += weights[span] * slackOf(span);
            }
            return sum;
        }

        int sumWeights() {
            int sum = 0;
            for (int span = 0; span < spanCount; span++) {
                sum += weights[span];
            }
            return sum;
        }

        /** Makes the best move of one event; makes none, and tells so, if that is no improvement. */
        boolean moveBest() {
            int leastBroken = countBroken();
            int leastCosts = sumCosts();
            int bestEvent = NONE;
            int bestTime = NONE;
            for (int event = 0; event < eventCount; event++) {
                int before = times[event];
                for (int time = 0; time < period; time++) {
                    times[event] = time;
                    int broken = countBroken();
                    int costs = sumCosts();
                    if (broken < leastBroken || broken == leastBroken && costs < leastCosts) {
                        leastBroken = broken;
                        leastCosts = costs;
                        bestEvent = event;
                        bestTime = time;
                    }
                }
                times[event] = before;
            }
            if (bestEvent == NONE) {
                return false;
            }
            times[bestEvent] = bestTime;
            return true;
        }
    }

    /** The NAMEs of the events; only load() changes them. */
    private static final class Names {
        private final byte[][] words = new byte[MAX_EVENTS][MAX_WORD];
        private final int[] lengths = new int[MAX_EVENTS];
        private int count = 0;

        void clear() {
            count = 0;
        }

        void copyFrom(Names other) {
            count = other.count;
            for (int event = 0; event < count; event++) {
                lengths[event] = other.lengths[event];
                System.arraycopy(other.words[event], 0, words[event], 0, MAX_WORD);
            }
        }

        void append(byte[] text, int start, int length) {
            if (count < MAX_EVENTS && length <= MAX_WORD) {
                System.arraycopy(text, start, words[count], 0, length);
                lengths[count] = length;
                count++;
            }
        }

        int indexOf(byte[] text, int start, int length) {
            for (int event = 0; event < count; event++) {
                if (lengths[event] == length && matches(event, text, start)) {
                    return event;
                }
            }
            return NONE;
        }

        private boolean matches(int event, byte[] text, int start) {
            for (int k = 0; k < lengths[event]; k++) {
                if (words[event][k] != text[start + k]) {
                    return false;
                }
            }
            return true;
        }

        void putOn(Page page, int event) {
            for (int k = 0; k < lengths[event]; k++) {
                page.put((char) words[event][k]);
            }
        }
    }

    /** Reads a text, token by token, into a plan and names of its own; stops at the first error. */
    private static final class Reader {
        private static final int ILLEGAL_TOKEN = 1;
        private static final int OTHER_EXPECTED = 2;
        private static final int OUT_OF_RANGE = 3;
        private static final int WRONG_NAME = 4;
        private static final int TOO_MANY = 5;

        private static final int END = 0;
        private static final int ILLEGAL = 1;
        private static final int WORD = 2;
        private static final int NUMBER = 3;
        private static final int SEMICOLON = 4;

        final Plan plan = new Plan();
        final Names names = new Names();
        int faultKind = 0;
        int faultPosition = NONE;

        private byte[] text = new byte[0];
        private int textLength = 0;
        private int tokenKind = END;
        private int tokenStart = 0;
        private int tokenEnd = 0;
        private int number = 0;

        boolean accepts(byte[] bytes, int length) {
            text = bytes;
            textLength = Math.min(length, bytes.length);
            tokenEnd = 0;
            faultKind = 0;
            faultPosition = NONE;
            names.clear();
            plan.startWith(DEFAULT_PERIOD);
            nextToken();
            boolean legal = tokenKind == END || readPeriod();
            // A statement takes more than a byte: the text ends before the counter does.
            for (int statement = 0; statement < MAX_TEXT && legal && tokenKind != END; statement++) {
                nextToken();
                legal = tokenKind == END || readStatement();
            }
            return legal;
        }

        private boolean readPeriod() {
            if (!isWord("period")) {
                return unexpected();
            }
            int period = readNumber(MIN_PERIOD, MAX_PERIOD);
            if (period == NONE || !readSemicolon()) {
                return false;
            }
            plan.startWith(period);
            return true;
        }

        private boolean readStatement() {
            if (isWord("event")) {
                return plan.eventCount < MAX_EVENTS ? readEvent() : fail(TOO_MANY);
            }
            if (isWord("span")) {
                return plan.spanCount < MAX_SPANS ? readSpan() : fail(TOO_MANY);
            }
            return unexpected();
        }

        private boolean readEvent() {
            nextToken();
            if (tokenKind != WORD) {
                return unexpected();
            }
            if (names.indexOf(text, tokenStart, tokenEnd - tokenStart) != NONE) {
                return fail(WRONG_NAME);
            }
            names.append(text, tokenStart, tokenEnd - tokenStart);
            int time = readNumber(0, plan.period - 1);
            if (time == NONE) {
                return false;
            }
            plan.appendEvent(time);
            return readSemicolon();
        }

        private boolean readSpan() {
            int from = readKnownEvent(NONE);
            int to = from == NONE ? NONE : readKnownEvent(from);
            int low = to == NONE ? NONE : readNumber(0, MAX_LOW);
            int high = low == NONE ? NONE : readNumber(low, low + plan.period - 1);
            if (high == NONE) {
                return false;
            }
            int weight = DEFAULT_WEIGHT;
            nextToken();
            if (tokenKind == NUMBER) {
                if (number > MAX_WEIGHT) {
                    return fail(OUT_OF_RANGE);
                }
                weight = number;
                nextToken();
            }
            if (tokenKind != SEMICOLON) {
                return unexpected();
            }
            plan.appendSpan(from, to, low, high, weight);
            return true;
        }

        /** The event with the next token as its NAME; NONE behind an error. */
        private int readKnownEvent(int except) {
            nextToken();
            if (tokenKind != WORD) {
                unexpected();
                return NONE;
            }
            int event = names.indexOf(text, tokenStart, tokenEnd - tokenStart);
            if (event == NONE || event == except) {
                fail(WRONG_NAME);
                return NONE;
            }
            return event;
        }

        /** The number that is the next token; NONE behind an error. */
        private int readNumber(int least, int most) {
            nextToken();
            if (tokenKind != NUMBER) {
                unexpected();
                return NONE;
            }
            if (number < least || number > most) {
                fail(OUT_OF_RANGE);
                return NONE;
            }
            return number;
        }

        private boolean readSemicolon() {
            nextToken();
            return tokenKind == SEMICOLON || unexpected();
        }

        private boolean unexpected() {
            return fail(tokenKind == ILLEGAL ? ILLEGAL_TOKEN : OTHER_EXPECTED);
        }

        private boolean fail(int kind) {
            faultKind = kind;
            faultPosition = tokenStart;
            return false;
        }

        private boolean isWord(String word) {
            int length = word.length();
            if (tokenKind != WORD || tokenEnd - tokenStart != length) {
                return false;
            }
            for (int k = 0; k < length; k++) {
                if (text[tokenStart + k] != word.charAt(k)) {
                    return false;
                }
            }
            return true;
        }

        private void nextToken() {
            tokenStart = tokenEnd;
            while (tokenStart < textLength && (text[tokenStart] == ' ' || text[tokenStart] == '\n')) {
                tokenStart++;
            }
            if (tokenStart >= textLength) {
                tokenEnd = tokenStart;
                tokenKind = END;
                return;
            }
            int wordEnd = endOfRun('a', 'z');
            int numberEnd = endOfRun('0', '9');
            if (wordEnd > tokenStart) {
                tokenEnd = wordEnd;
                tokenKind = wordEnd - tokenStart <= MAX_WORD ? WORD : ILLEGAL;
            } else if (numberEnd > tokenStart) {
                tokenEnd = numberEnd;
                tokenKind = numberEnd - tokenStart <= MAX_DIGITS ? NUMBER : ILLEGAL;
                number = tokenKind == NUMBER ? valueOfDigits() : 0;
            } else {
                tokenEnd = tokenStart + 1;
                tokenKind = text[tokenStart] == ';' ? SEMICOLON : ILLEGAL;
            }
        }

        /** Where the bytes of the given range end that begin where the token does. */
        private int endOfRun(int least, int most) {
            int end = tokenStart;
            while (end < textLength && text[end] >= least && text[end] <= most) {
                end++;
            }
            return end;
        }

        private int valueOfDigits() {
            int value = 0;
            for (int k = tokenStart; k < tokenEnd; k++) {
                value = value * 10 + (text[k] - '0');
            }
            return value;
        }
    }

    /** The plans before the latest edits, in a ring: the oldest one gives way to a new one. */
    private static final class History {
        private final Plan[] plans = new Plan[MAX_EDITS];
        private int next = 0;
        private int count = 0;

        History() {
            for (int k = 0; k < MAX_EDITS; k++) {
                plans[k] = new Plan();
            }
        }

        void clear() {
            count = 0;
        }

        void remember(Plan plan) {
            plans[next].copyFrom(plan);
            next = next + 1 < MAX_EDITS ? next + 1 : 0;
            count = Math.min(count + 1, MAX_EDITS);
        }

        int restore(Plan plan) {
            if (count == 0) {
                return NONE;
            }
            next = next > 0 ? next - 1 : MAX_EDITS - 1;
            count--;
            plan.copyFrom(plans[next]);
            return count;
        }
    }

    /** For each two events the set of the allowed differences: bit d is set if d is allowed. */
    private static final class Differences {
        // 15 sets of at most 24 differences can change in 360 rounds at the most.
        private static final int MAX_ROUNDS = 1_000;

        int roundsMade = 0;
        private final int[] sets = new int[PAIRS];
        private int events = 0;
        private int period = DEFAULT_PERIOD;
        private int all = 0;

        /** Sets what the spans alone allow. */
        void startFrom(Plan plan) {
            events = plan.eventCount;
            period = plan.period;
            all = (1 << period) - 1;
            roundsMade = 0;
            for (int from = 0; from < events; from++) {
                for (int to = 0; to < events; to++) {
                    sets[from * MAX_EVENTS + to] = from == to ? 1 : all;
                }
            }
            for (int span = 0; span < plan.spanCount; span++) {
                narrow(plan.froms[span], plan.tos[span], keptWith(plan, span));
            }
        }

        private static int keptWith(Plan plan, int span) {
            int set = 0;
            for (int difference = 0; difference < plan.period; difference++) {
                if (plan.lows[span] + plan.slackWith(span, difference) <= plan.highs[span]) {
                    set |= 1 << difference;
                }
            }
            return set;
        }

        int between(int from, int to) {
            return sets[from * MAX_EVENTS + to];
        }

        boolean allows(int from, int to, int difference) {
            return (between(from, to) >> difference & 1) == 1;
        }

        boolean hasEmptySet() {
            for (int from = 0; from < events; from++) {
                for (int to = 0; to < events; to++) {
                    if (between(from, to) == 0) {
                        return true;
                    }
                }
            }
            return false;
        }

        void tighten() {
            boolean changed = true;
            while (changed && roundsMade < MAX_ROUNDS) {
                changed = makeRound();
                roundsMade++;
            }
        }

        private boolean makeRound() {
            boolean changed = false;
            for (int over = 0; over < events; over++) {
                for (int from = 0; from < events; from++) {
                    // The sets of to and from follow those of from and to, and need no turn.
                    for (int to = from + 1; to < events; to++) {
                        if (over != from && over != to
                                && narrow(from, to, sums(between(from, over), between(over, to)))) {
                            changed = true;
                        }
                    }
                }
            }
            return changed;
        }

        /** Leaves from the two sets only what is in the given set; tells whether they changed. */
        private boolean narrow(int from, int to, int set) {
            int before = between(from, to);
            int after = before & set;
            sets[from * MAX_EVENTS + to] = after;
            sets[to * MAX_EVENTS + from] = negated(after);
            return after != before;
        }

        private int sums(int first, int second) {
            int set = 0;
            for (int difference = 0; difference < period; difference++) {
                if ((first >> difference & 1) == 1) {
                    set |= second << difference | second >> (period - difference);
                }
            }
            return set & all;
        }

        private int negated(int set) {
            int result = set & 1;
            for (int difference = 1; difference < period; difference++) {
                if ((set >> difference & 1) == 1) {
                    result |= 1 << (period - difference);
                }
            }
            return result;
        }
    }

    /** The cycles that the spans close, each as its spans with 1 for forward and -1 for backward. */
    private static final class Cycles {
        private static final int NO_WAY = -1;
        private static final int GOAL = -2;

        int count = 0;
        final int[] lengths = new int[MAX_SPANS];
        final int[][] steps = new int[MAX_SPANS][MAX_EVENTS];
        final int[][] signs = new int[MAX_SPANS][MAX_EVENTS];
        private final boolean[] inTree = new boolean[MAX_SPANS];
        private final int[] ways = new int[MAX_EVENTS];

        void closeAll(Plan plan) {
            count = 0;
            for (int span = 0; span < plan.spanCount; span++) {
                findWays(plan, plan.froms[span], span);
                inTree[span] = ways[plan.tos[span]] == NO_WAY;
                if (!inTree[span]) {
                    closeWith(plan, span);
                }
            }
        }

        /** For each event, the tree span (of the first ones) that leads from it towards the goal. */
        private void findWays(Plan plan, int goal, int spans) {
            for (int event = 0; event < plan.eventCount; event++) {
                ways[event] = event == goal ? GOAL : NO_WAY;
            }
            for (int distance = 1; distance < plan.eventCount; distance++) {
                for (int span = 0; span < spans; span++) {
                    if (inTree[span]) {
                        findWay(plan.froms[span], plan.tos[span], span);
                    }
                }
            }
        }

        private void findWay(int from, int to, int span) {
            if (ways[from] == NO_WAY && ways[to] != NO_WAY) {
                ways[from] = span;
            } else if (ways[to] == NO_WAY && ways[from] != NO_WAY) {
                ways[to] = span;
            }
        }

        private void closeWith(Plan plan, int closing) {
            steps[count][0] = closing;
            signs[count][0] = 1;
            int length = 1;
            int event = plan.tos[closing];
            while (length < MAX_EVENTS && ways[event] >= 0) {
                int span = ways[event];
                boolean forward = plan.froms[span] == event;
                steps[count][length] = span;
                signs[count][length] = forward ? 1 : -1;
                event = forward ? plan.tos[span] : plan.froms[span];
                length++;
            }
            lengths[count] = length;
            count++;
        }

        int turnsNow(Plan plan, int cycle) {
            int sum = 0;
            for (int step = 0; step < lengths[cycle]; step++) {
                int span = steps[cycle][step];
                sum += signs[cycle][step] * (plan.lows[span] + plan.slackOf(span));
            }
            return quotient(sum, plan.period);
        }

        int leastTurns(Plan plan, int cycle) {
            return -quotient(-sumOf(cycle, plan.lows, plan.highs), plan.period);
        }

        int mostTurns(Plan plan, int cycle) {
            return quotient(sumOf(cycle, plan.highs, plan.lows), plan.period);
        }

        private int sumOf(int cycle, int[] ofForward, int[] ofBackward) {
            int sum = 0;
            for (int step = 0; step < lengths[cycle]; step++) {
                int span = steps[cycle][step];
                sum += signs[cycle][step] > 0 ? ofForward[span] : -ofBackward[span];
            }
            return sum;
        }

        private static int quotient(int number, int divisor) {
            return divisor < 1 ? 0 : Math.floorDiv(number, divisor);
        }
    }

    /**
     * Looks through the good timetables in their order, event by event. What the events placed so
     * far make each later event cost at each time is kept a row for each depth; a way is left as
     * soon as it cannot get below the best cost found.
     */
    private static final class Search {
        // Above each sum of costs; small enough that sums of it do not wrap around.
        private static final int NEVER = 1 << 20;

        int bestCost = NEVER;
        final int[] bestTimes = new int[MAX_EVENTS];
        private final Differences differences = new Differences();
        private final int[][] pairCosts = new int[PAIRS][MAX_PERIOD];
        private final int[][] eventCosts = new int[MAX_EVENTS][MAX_EVENTS * MAX_PERIOD];
        private final int[] leastAmong = new int[MAX_EVENTS];
        private final int[] tried = new int[MAX_EVENTS];
        private int events = 0;
        private int period = DEFAULT_PERIOD;
        private boolean firstOnly = false;

        /** Finds the first good timetable, or else the first one of the cheapest. */
        boolean findGood(Plan plan, boolean first) {
            firstOnly = first;
            events = plan.eventCount;
            period = plan.period;
            bestCost = NEVER;
            differences.startFrom(plan);
            differences.tighten();
            if (!differences.hasEmptySet()) {
                priceDifferences(plan);
                sumLeastPrices();
                holdFirstEvent(plan);
                placeFrom(0, 0);
            }
            return bestCost < NEVER;
        }

        private void priceDifferences(Plan plan) {
            for (int from = 0; from < events; from++) {
                for (int to = from + 1; to < events; to++) {
                    for (int difference = 0; difference < period; difference++) {
                        boolean open = differences.allows(from, to, difference);
                        pairCosts[from * MAX_EVENTS + to][difference] = open ? 0 : NEVER;
                    }
                }
            }
            for (int span = 0; span < plan.spanCount; span++) {
                priceSpan(plan, span);
            }
        }

        private void priceSpan(Plan plan, int span) {
            int from = Math.min(plan.froms[span], plan.tos[span]);
            int to = Math.max(plan.froms[span], plan.tos[span]);
            int sign = from == plan.froms[span] ? 1 : -1;
            for (int difference = 0; difference < period; difference++) {
                pairCosts[from * MAX_EVENTS + to][difference] +=
                        plan.weights[span] * plan.slackWith(span, sign * difference);
            }
        }

        /** For each event, the least that the spans among the events behind it can cost. */
        private void sumLeastPrices() {
            int sum = 0;
            for (int event = events - 1; event >= 0; event--) {
                leastAmong[event] = sum;
                for (int later = event + 1; later < events; later++) {
                    sum += leastPrice(pairCosts[event * MAX_EVENTS + later]);
                }
            }
        }

        private int leastPrice(int[] prices) {
            int least = NEVER;
            for (int difference = 0; difference < period; difference++) {
                least = Math.min(least, prices[difference]);
            }
            return least;
        }

        private void holdFirstEvent(Plan plan) {
            for (int event = 0; event < events; event++) {
                for (int time = 0; time < period; time++) {
                    boolean free = event > 0 || time == plan.times[0];
                    eventCosts[0][event * MAX_PERIOD + time] = free ? 0 : NEVER;
                }
            }
        }

        /** Places an event and those behind it; those before it are placed, at the given cost. */
        private void placeFrom(int event, int cost) {
            if (event >= events || event >= MAX_EVENTS) {
                bestCost = cost;
                System.arraycopy(tried, 0, bestTimes, 0, events);
                return;
            }
            for (int time = 0; time < period; time++) {
                placeAt(event, time, cost + eventCosts[event][event * MAX_PERIOD + time]);
            }
        }

        /** Places an event at a time, with which the placed ones are at the given cost. */
        private void placeAt(int event, int time, int cost) {
            if (canGetBest(cost) && canGetBest(cost + priceBehind(event, time))) {
                tried[event] = time;
                placeFrom(event + 1, cost);
            }
        }

        private boolean canGetBest(int leastSum) {
            // An equal cost is no better: of several cheapest ones the first is asked for.
            return leastSum < bestCost && (bestCost == NEVER || !firstOnly);
        }

        /** Prices the events behind one that is placed; returns the least that they will cost. */
        private int priceBehind(int event, int time) {
            int sum = leastAmong[event];
            for (int later = event + 1; later < events; later++) {
                int[] prices = pairCosts[event * MAX_EVENTS + later];
                int least = NEVER;
                for (int laterTime = 0; laterTime < period; laterTime++) {
                    int difference = laterTime < time ? laterTime - time + period : laterTime - time;
                    int place = later * MAX_PERIOD + laterTime;
                    int price = eventCosts[event][place] + prices[difference];
                    eventCosts[event + 1][place] = price;
                    least = Math.min(least, price);
                }
                sum += least;
            }
            return sum;
        }
    }

    /** The output: its characters so far. */
    private static final class Page {
        private static final int GREATEST_UNIT = 1_000_000_000;

        final char[] signs = new char[MAX_OUTPUT];
        int length = 0;

        void clear() {
            length = 0;
        }

        void put(char sign) {
            if (length < MAX_OUTPUT) {
                signs[length] = sign;
                length++;
            }
        }

        /** Puts a number with all its digits: the turns of a long cycle have three, others fewer. */
        void putNumber(int number) {
            if (number < 0) {
                put('-');
            }
            for (int unit = GREATEST_UNIT; unit > 0; unit /= 10) {
                int digits = number / unit;
                if (digits != 0 || unit == 1) {
                    int digit = digits % 10;
                    put((char) ('0' + (digit < 0 ? -digit : digit)));
                }
            }
        }
    }
}
