import java.util.ArrayList;
import java.util.Arrays;
import java.util.Collections;
import java.util.List;
import java.util.Random;

/**
 * Searches among up to millions of good timetables, which ModelRuns leaves out: what the class finds
 * is compared with what trying all of them finds. The texts are the same each time.
 */
public final class SearchRuns {
    private static final int BROKEN = -1;

    /** The spans of a text, and the timetables that trying all of them finds good. */
    private static final class Trial {
        final int period;
        final int[] times;
        final int[][] spans;
        boolean found = false;
        int[] first = new int[0];
        int[] cheapest = new int[0];
        int leastCost = 0;
        private final int[][][] costs;
        private final int[] placed;
        private boolean firstOnly = false;

        Trial(int period, int[] times, int[][] spans) {
            this.period = period;
            this.times = times;
            this.spans = spans;
            costs = new int[times.length][times.length][period];
            placed = new int[times.length];
        }

        Trial tryAll(boolean untilFirst) {
            found = false;
            firstOnly = untilFirst;
            for (int a = 0; a < times.length; a++) {
                for (int b = a + 1; b < times.length; b++) {
                    for (int difference = 0; difference < period; difference++) {
                        costs[a][b][difference] = costOf(a, b, difference);
                    }
                }
            }
            place(0, 0);
            return this;
        }

        /** What the spans of two events cost with a difference of their times. */
        private int costOf(int a, int b, int difference) {
            int cost = 0;
            for (int[] span : spans) {
                boolean there = span[0] == a && span[1] == b;
                if (there || span[0] == b && span[1] == a) {
                    int slack = Math.floorMod((there ? difference : -difference) - span[2], period);
                    if (span[2] + slack > span[3]) {
                        return BROKEN;
                    }
                    cost += span[4] * slack;
                }
            }
            return cost;
        }

        private void place(int event, int cost) {
            if (event == placed.length) {
                judge(cost);
                return;
            }
            int from = event == 0 ? times[0] : 0;
            int to = event == 0 ? times[0] : period - 1;
            for (int time = from; time <= to && !(found && firstOnly); time++) {
                placed[event] = time;
                int more = costWithThoseBefore(event);
                if (more != BROKEN) {
                    place(event + 1, cost + more);
                }
            }
        }

        private int costWithThoseBefore(int event) {
            int sum = 0;
            for (int before = 0; before < event; before++) {
                int cost = costs[before][event][Math.floorMod(placed[event] - placed[before], period)];
                if (cost == BROKEN) {
                    return BROKEN;
                }
                sum += cost;
            }
            return sum;
        }

        private void judge(int cost) {
            if (!found) {
                first = placed.clone();
            }
            if (!found || cost < leastCost) {
                cheapest = placed.clone();
                leastCost = cost;
            }
            found = true;
        }

        String text() {
            StringBuilder text = new StringBuilder("period " + period + ";");
            for (int event = 0; event < times.length; event++) {
                text.append("event ").append(name(event)).append(times[event]).append(";");
            }
            for (int[] span : spans) {
                text.append("span ").append(name(span[0])).append(" ").append(name(span[1]));
                text.append(span[2]).append(" ").append(span[3]).append(" ").append(span[4]).append(";");
            }
            return text.toString();
        }

        private static char name(int event) {
            return (char) ('a' + event);
        }

        Trial without(int span) {
            int[][] others = new int[spans.length - 1][];
            System.arraycopy(spans, 0, others, 0, span);
            System.arraycopy(spans, span + 1, others, span, others.length - span);
            return new Trial(period, times, others);
        }

        Trial raised(int span, int by) {
            int[][] changed = spans.clone();
            changed[span] = spans[span].clone();
            changed[span][2] += by;
            return new Trial(period, times, changed);
        }
    }

    private SearchRuns() {
    }

    public static void main(String[] args) {
        runAll("six events, short periods", 1, 300, 6, 2, 9);
        runAll("six events, middle periods", 2, 300, 6, 10, 14);
        runAll("six events, all periods", 3, 60, 6, 15, 24);
        runAll("five events, long periods", 4, 300, 5, 15, 24);
        runAll("four events, long periods", 5, 300, 4, 15, 24);
        Kit.exit();
    }

    private static void runAll(String name, long seed, int runs, int events, int leastPeriod, int mostPeriod) {
        Kit.begin();
        Random random = new Random(seed);
        for (int run = 0; run < runs; run++) {
            compare(trial(random, events, leastPeriod + random.nextInt(mostPeriod - leastPeriod + 1)));
        }
        Kit.end("search: " + name);
    }

    // ---- texts

    private static Trial trial(Random random, int events, int period) {
        int[] times = new int[events];
        for (int event = 0; event < events; event++) {
            times[event] = random.nextInt(period);
        }
        List<int[]> pairs = new ArrayList<>();
        for (int a = 0; a < events; a++) {
            for (int b = a + 1; b < events; b++) {
                pairs.add(random.nextBoolean() ? new int[] {a, b} : new int[] {b, a});
            }
        }
        Collections.shuffle(pairs, random);
        int[][] spans = new int[3 + random.nextInt(12)][];
        int narrowest = random.nextInt(4) * period / 4;
        for (int span = 0; span < spans.length; span++) {
            // Few pairs are told twice: with most of the pairs told once, much is good and dear to tell.
            int[] pair = pairs.get(span < pairs.size() ? span : random.nextInt(pairs.size()));
            int low = random.nextInt(random.nextInt(3) == 0 ? 49 : period);
            int high = low + narrowest + random.nextInt(period - narrowest);
            spans[span] = new int[] {pair[0], pair[1], low, high, random.nextInt(5) == 0 ? 0 : random.nextInt(21)};
        }
        return new Trial(period, times, spans);
    }

    // ---- what the class finds

    private static void compare(Trial trial) {
        String text = trial.text();
        SpanTimetable x = Kit.made(text);
        trial.tryAll(false);
        Kit.equal("isSolvable of " + text, trial.found, x.isSolvable());
        if (trial.found) {
            compareGood(x, trial, text);
        } else {
            Kit.equal("leastCost of " + text, "NoSuchElementException", Kit.thrown(x::leastCost));
            Kit.equal("solve of " + text, "NoSuchElementException", Kit.thrown(x::solve));
            Kit.equal("cheapen of " + text, "NoSuchElementException", Kit.thrown(x::cheapen));
        }
        for (int span = 0; span < trial.spans.length; span++) {
            Kit.equal("canRaise(" + span + ") of " + text, mostRaise(trial, span), x.canRaise(span));
            boolean critical = !trial.found && trial.without(span).tryAll(true).found;
            Kit.equal("isCritical(" + span + ") of " + text, critical, x.isCritical(span));
        }
        Kit.equal("times in the end of " + text, told(trial.times), Kit.times(x));
    }

    private static void compareGood(SpanTimetable x, Trial trial, String text) {
        Kit.equal("leastCost of " + text, trial.leastCost, x.leastCost());
        int cost = x.solve();
        Kit.equal("times of solve of " + text, told(trial.first), Kit.times(x));
        Kit.equal("cost of solve of " + text, x.cost(), cost);
        x.undo();
        Kit.equal("cheapen of " + text, trial.leastCost, x.cheapen());
        Kit.equal("times of cheapen of " + text, told(trial.cheapest), Kit.times(x));
        x.undo();
    }

    private static int mostRaise(Trial trial, int span) {
        int most = trial.found ? trial.spans[span][3] - trial.spans[span][2] : SpanTimetable.NONE;
        while (most > 0 && !trial.raised(span, most).tryAll(true).found) {
            most--;
        }
        return most;
    }

    private static String told(int[] times) {
        return Arrays.toString(times).replaceAll("[\\[\\],]", "");
    }
}
