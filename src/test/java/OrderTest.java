import java.util.ArrayList;
import java.util.Collections;
import java.util.List;
import java.util.Random;
import java.util.function.ToIntFunction;

/**
 * An answer depends on what was told alone: not on what was asked ahead of it, nor on how often. The rows that calls
 * share are left full by each of them, so that a call that reads one row too far would answer by an earlier RUN.
 */
public final class OrderTest {
    private static final int NONE = TracePackets.NONE;
    private static final int SORTS = 4;
    private static final int CALLS = 512;
    private static final int REPEATS = 12;
    private static final int SHUFFLES = 25;

    /** Of each world two CODES, DRIVES, LOSSES, LOGS: long RUNS beside short ones, such as end BLIND, such as end at once. */
    private static final String[][] WORLDS = {
        {"if 0;stop;bits 1;sync 2;", "if 0;stop;bits 1;room 3;rate 9;", "y;".repeat(60), "y;y;y;y;y;n;",
            "lose 1;", "lose 40;lose 7;", "", "saw 0 5;"},
        {"jump 0;stop;sync 99;", "plain;plain;jump 0;sync 2;room 3;rate 5;", "", "y;",
            "lose 0;", "lose 3;lose 2;", "", "saw 1 0;"},
        {"call 2;stop;if 4;ret;call 5;ret;if 2;ret;deep 1;bits 3;", "call 0;", "n;n;y;n;n;y;y;n;y;n;", "y;y;y;y;y;y;y;y;y;",
            "lose 2;lose 5;", "", "saw 2 2;", "saw 0 1;saw 7 1;"},
        {"via;".repeat(40) + "from 1;to 30;", "", "go 1;go 31;go 9;go 8;go 39;go 2;go 3;go 17;",
            "go 30;".repeat(60), "lose 4;", "lose 99;", "saw 8 1;", "saw 30 59;"},
        {"plain;mode 1;if 0;mode 0;jump 2;only 0;sync 99;", "mode 1;if 0;stop;only 0;", "y;".repeat(59) + "n;", "n;",
            "lose 12;", "lose 0;lose 1;lose 2;", "saw 0 59;", "saw 2 80;saw 0 60;"},
    };

    private OrderTest() { }

    public static void main(String[] args) {
        for (String[] world : WORLDS) {
            List<ToIntFunction<TracePackets>> asks = new ArrayList<>();
            List<String> names = new ArrayList<>();
            for (int code = 0; code < 2; code++) {
                askOfCode(asks, names, code);
                for (int drive = 0; drive < 2; drive++) {
                    askOfRun(asks, names, code, drive);
                    askOfPackets(asks, names, code, drive);
                    askOfLosses(asks, names, code, drive);
                }
            }
            int[] alone = repeated(world, asks, names);
            shuffled(world, asks, names, alone);
        }
        Checks.close("OrderTest");
    }

    private static void add(List<ToIntFunction<TracePackets>> asks, List<String> names, String name,
            ToIntFunction<TracePackets> ask) {
        asks.add(ask);
        names.add(name);
    }

    private static void askOfCode(List<ToIntFunction<TracePackets>> asks, List<String> names, int code) {
        for (int i = NONE; i < 4; i++) {
            int k = i;
            add(asks, names, "head " + code + " " + k, x -> x.head(code, k));
            add(asks, names, "dead " + code + " " + k, x -> x.dead(code, k));
        }
        for (int what : new int[] {0, 1, 2, 3, 4, 5, 10}) {
            for (int seed = 1; seed < 4; seed++) {
                int by = seed;
                add(asks, names, "drawn " + code + " " + by + " " + what, x -> x.drawn(code, by, 20 * by, what));
            }
        }
        add(asks, names, "widest " + code, x -> x.block(code, NONE));
    }

    private static void askOfRun(List<ToIntFunction<TracePackets>> asks, List<String> names, int code, int drive) {
        String run = " " + code + " " + drive + " ";
        for (int i = 0; i < 8; i++) {
            int what = i;
            add(asks, names, "run" + run + what, x -> x.run(code, drive, what));
            add(asks, names, "visits" + run + what, x -> x.visits(code, drive, what));
            add(asks, names, "hot" + run + what, x -> x.hot(code, drive, what));
        }
        for (int k : new int[] {0, 1, 5, 10, 60, 199}) {
            add(asks, names, "step" + run + k, x -> x.step(code, drive, k, false));
            add(asks, names, "traced" + run + k, x -> x.step(code, drive, k, true));
            add(asks, names, "open" + run + k, x -> x.open(code, drive, k, NONE));
            add(asks, names, "open of" + run + k, x -> x.open(code, drive, k, 1));
        }
        add(asks, names, "apart" + run, x -> x.apart(code, drive, 1 - drive));
        add(asks, names, "warm" + run, x -> x.block(code, drive));
    }

    private static void askOfPackets(List<ToIntFunction<TracePackets>> asks, List<String> names, int code, int drive) {
        String run = " " + code + " " + drive + " ";
        for (int i = 0; i < 16; i++) {
            int what = i;
            add(asks, names, "sent" + run + what, x -> x.sent(code, drive, what));
        }
        for (int k : new int[] {0, 1, 2, 3, 6, 7, 12, 40, 121, 122}) {
            for (int i = 0; i < 5; i++) {
                int what = i;
                add(asks, names, "packet" + run + k + " " + what, x -> x.packet(code, drive, k, what));
            }
        }
    }

    private static void askOfLosses(List<ToIntFunction<TracePackets>> asks, List<String> names, int code, int drive) {
        String run = " " + code + " " + drive + " ";
        for (int i = NONE; i < 2; i++) {
            int loss = i;
            for (int what : new int[] {0, 1, 2, 100, 101, 102, 160, 1000, 1003, 1008, 1100, 1199}) {
                add(asks, names, "rebuilt" + run + loss + " " + what, x -> x.rebuilt(code, drive, loss, what));
            }
            for (int j = NONE; j < 3; j++) {
                int k = j;
                add(asks, names, "missed" + run + loss + " " + k, x -> x.missed(code, drive, loss, k));
            }
        }
        for (int i = 0; i < 2; i++) {
            int log = i;
            for (int what : new int[] {0, 1, 10, 11, 12, 50}) {
                add(asks, names, "fits" + run + log + " " + what, x -> x.fits(code, drive, log, what));
            }
        }
    }

    private static TracePackets told(String[] world) {
        TracePackets x = new TracePackets();
        for (int i = 0; i < world.length; i++) {
            Checks.due("text '" + world[i] + "'", i % 2, Checks.tell(x, i * SORTS / world.length, world[i]));
        }
        return x;
    }

    private static int callsToTell(String[] world) {
        int calls = 0;
        for (String text : world) {
            calls += 3 + Checks.rows(text).length;
        }
        return calls;
    }

    /** Each question alone, to a new object, again and again: the answers. */
    private static int[] repeated(String[] world, List<ToIntFunction<TracePackets>> asks, List<String> names) {
        int[] answers = new int[asks.size()];
        for (int i = 0; i < answers.length; i++) {
            TracePackets x = told(world);
            answers[i] = asks.get(i).applyAsInt(x);
            for (int time = 1; time < REPEATS; time++) {
                Checks.due(names.get(i) + ", asked again", answers[i], asks.get(i).applyAsInt(x));
            }
        }
        return answers;
    }

    /** All of them to one object, in any order, as many as an object is good for. */
    private static void shuffled(String[] world, List<ToIntFunction<TracePackets>> asks, List<String> names, int[] alone) {
        List<Integer> order = new ArrayList<>();
        for (int i = 0; i < alone.length; i++) {
            order.add(i);
        }
        int most = CALLS - callsToTell(world);
        Random random = new Random(world[0].length());
        for (int round = 0; round < SHUFFLES; round++) {
            Collections.shuffle(order, random);
            TracePackets x = told(world);
            for (int i : order.subList(0, Math.min(most, order.size()))) {
                Checks.due(names.get(i) + ", asked behind others", alone[i], asks.get(i).applyAsInt(x));
            }
        }
    }
}
