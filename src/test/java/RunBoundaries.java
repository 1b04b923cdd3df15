/** The boundary cases of RUNS: how they go on and end, what is told of their STEPS, of HEADS, BLOCKS, DEAD, DRAWN. */
final class RunBoundaries {
    private static final int NONE = TracePackets.NONE;
    private static final int CODE = 0;
    private static final int DRIVE = 1;
    private static final int LEAST = Integer.MIN_VALUE;
    private static final int GREATEST = Integer.MAX_VALUE;
    /** Numbers that no CODE, DRIVE or STEP has. */
    private static final int[] STRANGE = {-2, -3, 2, 3, LEAST, GREATEST};
    /** What run() tells. */
    private static final int STEPS = 0;
    private static final int ENDS = 1;
    private static final int EDGES = 2;
    private static final int LOOPS = 3;
    private static final int DEEPEST = 4;
    private static final int USED = 5;
    private static final int TRACED = 6;
    private static final int RETURNS = 7;
    /** Rounds of nine STEPS, left for 9 at yes: at 22 times no and a yes the 200th STEP is at 9. */
    private static final String ROUNDS = "if 9;" + "plain;".repeat(7) + "jump 0;";
    private static final String TO_THE_LAST = "n;".repeat(22) + "y;";

    private RunBoundaries() { }

    static void all() {
        ways();
        endings();
        traced();
        counts();
        openAndApart();
        blocks();
        deadEnds();
        answersOfRuns();
        answersOfCodes();
        draws();
    }

    private static void due(String call, long want, long got) {
        Checks.due(call, want, got);
    }

    private static TracePackets told(String code, String drive) {
        return Checks.told(code, drive);
    }

    private static String many(String part, int times) {
        return Checks.many(part, times);
    }

    private static void dueRun(String code, String drive, int what, int want) {
        due("run of '" + code + "' by '" + drive + "', what " + what, want, told(code, drive).run(0, 0, what));
    }

    private static void dueSteps(String code, String drive, int ends, int... steps) {
        TracePackets x = told(code, drive);
        String run = "'" + code + "' by '" + drive + "'";
        due("steps of " + run, steps.length, x.run(0, 0, STEPS));
        for (int k = 0; k < steps.length; k++) {
            due("step " + k + " of " + run, steps[k], x.step(0, 0, k, false));
        }
        due("end of " + run, ends, x.run(0, 0, ENDS));
    }

    // Term 2

    private static void ways() {
        Sentences.holds("Term 2, Promise 10",
                "A RUN of a CODE by a DRIVE has STEPS, from 0 on, each at an ADDRESS, the first at 0;", () -> {
            dueSteps("stop;", "", 1, 0);
            dueSteps("plain;stop;", "y;n;go 1;", 1, 0, 1);
        });
        Sentences.holds("Term 2, Promise 10", "behind it is: plain: the next ADDRESS;", () -> {
            int[] all = new int[40];
            for (int a = 0; a < 40; a++) {
                all[a] = a;
            }
            dueSteps(many("plain;", 40), "", 3, all);
            dueSteps(many("plain;", 39) + "stop;", "", 1, all);
        });
        Sentences.holds("Term 2, Promise 10",
                "if: by the next CHOICE, yes: the TARGET, no: the next ADDRESS;", () -> {
            dueSteps("if 2;stop;stop;", "y;", 1, 0, 2);
            dueSteps("if 2;stop;stop;", "n;", 1, 0, 1);
            dueSteps("if 0;stop;", "y;y;n;y;", 1, 0, 0, 0, 1);
            // the last INSTRUCTION: there is none behind it
            dueSteps("jump 39;" + many("stop;", 38) + "if 39;", "y;n;", 3, 0, 39, 39);
        });
        Sentences.holds("Term 2, Promise 10", "jump: the TARGET;", () -> {
            dueSteps("jump 39;" + many("stop;", 38) + "jump 38;", "", 1, 0, 39, 38);
            dueRun("jump 0;", "", STEPS, 200);
        });
        Sentences.holds("Term 2, Promise 10",
                "call: the TARGET, the next ADDRESS being put upon the STACK;", () -> {
            dueSteps("call 2;stop;ret;", "", 1, 0, 2, 1);
            // the last INSTRUCTION: back to where there is none
            dueSteps("jump 2;ret;call 1;", "", 3, 0, 2, 1);
            dueSteps("jump 39;ret;" + many("stop;", 37) + "call 1;", "", 3, 0, 39, 1);
        });
        Sentences.holds("Term 2, Promise 10", "ret: the ADDRESS that is taken off it;", () -> {
            // the latest call first, the first one last
            dueSteps("call 2;stop;call 4;ret;call 6;ret;ret;", "", 1, 0, 2, 4, 6, 5, 3, 1);
            // what was taken off is gone
            dueSteps("call 2;ret;ret;", "", 4, 0, 2, 1);
        });
        Sentences.holds("Term 2, Promise 10", "via: by the next CHOICE, to that ADDRESS.", () -> {
            dueSteps("via;stop;", "go 0;go 0;go 1;", 1, 0, 0, 0, 1);
            dueSteps("via;" + many("stop;", 39), "go 39;", 1, 0, 39);
            dueSteps("via;" + many("stop;", 38), "go 39;", 3, 0);
        });
    }

    private static void endings() {
        Sentences.holds("Term 2, Promise 9",
                "It ENDS behind a STEP (without a STEP, where there is no INSTRUCTION at 0):", () -> {
            dueSteps("", "", 3);
            dueSteps("mode 1;bits 1;", "y;", 3);
            dueSteps("stop;", "", 1, 0);
        });
        Sentences.holds("Term 2, Promise 9", "1 at stop;", () -> {
            dueSteps("stop;stop;", "", 1, 0);
            dueSteps("call 1;stop;", "y;", 1, 0, 1);
        });
        Sentences.holds("Term 2, Promise 9",
                "2 if the next CHOICE is of another sort, or there is none;", () -> {
            dueSteps("if 0;", "", 2, 0);
            dueSteps("if 0;", "go 0;", 2, 0);
            dueSteps("if 0;", "y;", 2, 0, 0);
            dueSteps("if 0;", "y;go 0;y;", 2, 0, 0);
            dueSteps("via;", "", 2, 0);
            dueSteps("via;", "y;", 2, 0);
            dueSteps("via;", "n;", 2, 0);
            dueSteps("via;", "go 0;n;go 0;", 2, 0, 0);
            // the 60th is the last one
            dueRun("if 0;", many("y;", 60), STEPS, 61);
            dueRun("if 0;", many("y;", 60), ENDS, 2);
        });
        Sentences.holds("Term 2, Promise 9", "3 if there is no INSTRUCTION at the ADDRESS it comes to;", () -> {
            dueSteps("plain;", "", 3, 0);
            dueSteps("if 0;", "n;", 3, 0);
            dueSteps("via;", "go 1;", 3, 0);
            dueSteps("via;", "go 39;", 3, 0);
            dueSteps(many("plain;", 39) + "if 0;", many("n;", 1), 3, java.util.stream.IntStream.range(0, 40).toArray());
        });
        Sentences.holds("Term 2, Promise 9", "4 at ret, if the STACK is empty, at call, if it has 9;", () -> {
            dueSteps("ret;", "", 4, 0);
            dueSteps("call 1;ret;ret;", "", 4, 0, 1, 1);
            // the ninth is put upon it, the tenth is not
            dueSteps("call 0;", "", 4, 0, 0, 0, 0, 0, 0, 0, 0, 0, 0);
            StringBuilder nine = new StringBuilder();
            for (int a = 1; a <= 9; a++) {
                nine.append("call ").append(a).append(';');
            }
            dueSteps(nine + "stop;", "", 1, 0, 1, 2, 3, 4, 5, 6, 7, 8, 9);
            dueSteps(nine + "call 10;stop;", "", 4, 0, 1, 2, 3, 4, 5, 6, 7, 8, 9);
            // a ret makes room for a call again
            String eight = nine.substring(0, 8 * "call 1;".length());
            dueSteps(eight + "call 10;call 10;if 12;stop;ret;", "y;n;", 1, 0, 1, 2, 3, 4, 5, 6, 7, 8, 10, 12, 9, 10, 11);
        });
        Sentences.holds("Term 2, Promise 9", "5 if there are 200 STEPS.", () -> {
            dueRun("jump 0;", "", STEPS, 200);
            dueRun("jump 0;", "", ENDS, 5);
            due("the last step", 0, told("jump 0;", "").step(0, 0, 199, false));
            due("none behind it", NONE, told("jump 0;", "").step(0, 0, 200, false));
            // 199 STEPS, then a CHOICE that is none; 200 with it
            dueRun(ROUNDS + "stop;", many("n;", 22), STEPS, 199);
            dueRun(ROUNDS + "stop;", many("n;", 22), ENDS, 2);
            dueRun(ROUNDS + "stop;", many("n;", 23), STEPS, 200);
            dueRun(ROUNDS + "stop;", many("n;", 23), ENDS, 5);
        });
        Sentences.holds("Term 2, Promise 9",
                "(What of 1 to 4 comes first: 4, 1, 2 at the STEP itself, 3 and then 5 behind it.)", () -> {
            // the 200th STEP is at 9: what ENDS it there, or behind it, is ahead of 5
            String[] last = {"stop;", "ret;", "if 0;", "via;", "plain;", "call 0;", "jump 0;"};
            int[] ends = {1, 4, 2, 2, 3, 5, 5};
            for (int i = 0; i < last.length; i++) {
                dueRun(ROUNDS + last[i], TO_THE_LAST, STEPS, 200);
                dueRun(ROUNDS + last[i], TO_THE_LAST, ENDS, ends[i]);
            }
            dueRun(ROUNDS + "if 0;", TO_THE_LAST + "n;", ENDS, 3);
            dueRun(ROUNDS + "if 0;", TO_THE_LAST + "y;", ENDS, 5);
            dueRun(ROUNDS + "via;", TO_THE_LAST + "go 10;", ENDS, 3);
            dueRun(ROUNDS + "via;", TO_THE_LAST + "go 9;", ENDS, 5);
            // a call that finds nine is 4, wherever its TARGET leads
            dueRun("if 0;call 0;", "n;n;n;n;n;n;n;n;n;n;", ENDS, 4);
        });
    }

    private static void traced() {
        Sentences.holds("Term 2, Promise 10",
                "A STEP is TRACED, if its ADDRESS is FROM at least, TO at most, and ONLY is 2 or its MODE.", () -> {
            String code = "plain;mode 1;plain;plain;mode 0;plain;mode 1;stop;";
            dueTraced(code, 1, 1, 1, 1, 1);
            dueTraced(code + "from 1;", 0, 1, 1, 1, 1);
            dueTraced(code + "to 3;", 1, 1, 1, 1, 0);
            dueTraced(code + "from 2;to 2;", 0, 0, 1, 0, 0);
            dueTraced(code + "from 3;to 2;", 0, 0, 0, 0, 0);
            dueTraced(code + "from 4;to 39;", 0, 0, 0, 0, 1);
            dueTraced(code + "from 5;", 0, 0, 0, 0, 0);
            dueTraced(code + "to 0;", 1, 0, 0, 0, 0);
            dueTraced(code + "only 0;", 1, 0, 0, 1, 0);
            dueTraced(code + "only 1;", 0, 1, 1, 0, 1);
            dueTraced(code + "only 2;from 1;to 3;", 0, 1, 1, 1, 0);
            dueTraced(code + "only 1;from 2;to 3;", 0, 0, 1, 0, 0);
            dueTraced(code + "only 0;from 1;to 2;", 0, 0, 0, 0, 0);
        });
    }

    private static void dueTraced(String code, int... traced) {
        TracePackets x = told(code, "");
        int sum = 0;
        for (int k = 0; k < traced.length; k++) {
            due("step " + k + " of '" + code + "'", traced[k], x.step(0, 0, k, true));
            sum += traced[k];
        }
        due("traced of '" + code + "'", sum, x.run(0, 0, TRACED));
    }

    // Term 5, of a RUN

    private static void counts() {
        Sentences.holds("Term 5, Promise 19", "Of a RUN: VISITS of an ADDRESS: how many STEPS;", () -> {
            TracePackets x = told("if 0;stop;stop;", many("y;", 60));
            due("of the first", 61, x.visits(0, 0, 0));
            due("of one that is never come to", 0, x.visits(0, 0, 2));
            due("as many as there are", 200, told("jump 0;", "").visits(0, 0, 0));
            TracePackets y = told(many("plain;", 40), "");
            due("of the last", 1, y.visits(0, 0, 39));
        });
        Sentences.holds("Term 5, Promise 20",
                "HOT: ADDRESSES by VISITS, most first, of several the least first: the k-th of those that"
                + " were visited;", () -> {
            // 0 once, 1 and 2 twice, 3 three times, 4 once, 5 never
            dueHot("jump 3;if 3;if 3;if 1;stop;stop;", "y;n;y;y;n;y;n;", 3, 1, 2, 0, 4);
            dueHot("if 0;stop;", "y;n;", 0, 1);
            dueHot("jump 2;stop;jump 1;", "", 0, 1, 2);
            dueHot("", "");
            int[] all = new int[40];
            for (int a = 0; a < 40; a++) {
                all[a] = a;
            }
            dueHot(many("plain;", 40), "", all);
        });
        Sentences.holds("Term 5, Promise 9",
                "EDGES: how many unlike couples of ADDRESSES of two STEPS, one behind the other;", () -> {
            dueRun("", "", EDGES, 0);
            dueRun("stop;", "", EDGES, 0);
            dueRun("jump 0;", "", EDGES, 1);
            dueRun("jump 1;jump 0;", "", EDGES, 2);
            dueRun("if 1;if 0;", "y;y;n;", EDGES, 2);
            dueRun("plain;plain;if 0;stop;", "y;y;n;", EDGES, 4);
            dueRun("if 2;jump 0;jump 0;", "n;y;", EDGES, 4);
            // where it would have gone is no STEP
            dueRun("plain;", "", EDGES, 0);
            // those of another RUN are not its own
            TracePackets x = told("plain;plain;stop;", "");
            Checks.tell(x, CODE, "jump 0;");
            for (int round = 0; round < 2; round++) {
                due("edges of the first", 2, x.run(0, 0, EDGES));
                due("edges of the second", 1, x.run(1, 0, EDGES));
            }
            dueRun(many("plain;", 40), "", EDGES, 39);
        });
        Sentences.holds("Term 5, Promise 9",
                "LOOPS: STEPS to an ADDRESS that is no greater than that of the STEP ahead;", () -> {
            dueRun("", "", LOOPS, 0);
            dueRun("plain;stop;", "", LOOPS, 0);
            dueRun("if 0;stop;", "y;n;", LOOPS, 1);
            dueRun("jump 2;stop;jump 1;", "", LOOPS, 1);
            dueRun("jump 0;", "", LOOPS, 199);
            dueRun("jump 1;jump 0;", "", LOOPS, 99);
        });
        Sentences.holds("Term 5, Promise 9", "DEEPEST: the most on the STACK;", () -> {
            dueRun("stop;", "", DEEPEST, 0);
            dueRun("ret;", "", DEEPEST, 0);
            dueRun("call 1;stop;", "", DEEPEST, 1);
            dueRun("call 2;call 2;ret;", "", DEEPEST, 1);
            dueRun("call 3;call 4;stop;call 4;ret;", "", DEEPEST, 2);
            dueRun("call 0;", "", DEEPEST, 9);
            // the 200th STEP is a call
            dueRun(ROUNDS + "call 0;", TO_THE_LAST, DEEPEST, 1);
        });
        Sentences.holds("Term 5, Promise 9", "USED: how many CHOICES;", () -> {
            dueRun("stop;", "y;y;", USED, 0);
            dueRun("if 0;stop;", "y;n;y;", USED, 2);
            dueRun("if 0;", many("y;", 60), USED, 60);
            dueRun("if 0;", "go 0;", USED, 0);
            dueRun("via;", "go 39;go 0;", USED, 1);
            dueRun(ROUNDS + "via;", TO_THE_LAST + "go 0;", USED, 24);
        });
        Sentences.holds("Term 5, Promise 9", "TRACED: how many STEPS;", () -> {
            dueRun("", "", TRACED, 0);
            dueRun("jump 0;", "", TRACED, 200);
            dueRun("jump 0;from 1;", "", TRACED, 0);
            dueRun("jump 1;jump 0;from 1;", "", TRACED, 100);
        });
        Sentences.holds("Term 5, Promise 9",
                "RETURNS: STEPS at a ret that took an ADDRESS off the STACK.", () -> {
            dueRun("ret;", "", RETURNS, 0);
            dueRun("call 1;ret;", "", RETURNS, 1);
            dueRun("call 2;call 2;ret;", "", RETURNS, 2);
            // one that leads to where there is no INSTRUCTION took it off, too
            dueRun("jump 2;ret;call 1;", "", RETURNS, 1);
            dueRun("call 1;stop;", "", RETURNS, 0);
        });
    }

    private static void dueHot(String code, String drive, int... hot) {
        TracePackets x = told(code, drive);
        for (int k = 0; k < hot.length; k++) {
            due("hot " + k + " of '" + code + "'", hot[k], x.hot(0, 0, k));
        }
        due("no more hot of '" + code + "'", NONE, x.hot(0, 0, hot.length));
    }

    private static void openAndApart() {
        Sentences.holds("Term 5, Promise 11",
                "OPEN at STEP k: calls by which the RUN went on ahead of it, and that no ret came back from"
                + " ahead of it, the lowest first: how many; ADDRESS of the i-th (of the call itself).", () -> {
            // 0 2 4 6 5 3 1
            TracePackets x = told("call 2;stop;call 4;ret;call 6;ret;ret;", "");
            int[][] open = {{}, {0}, {0, 2}, {0, 2, 4}, {0, 2}, {0}, {}};
            for (int k = 0; k < open.length; k++) {
                due("open at " + k, open[k].length, x.open(0, 0, k, NONE));
                for (int i = 0; i < open[k].length; i++) {
                    due("open at " + k + ", " + i, open[k][i], x.open(0, 0, k, i));
                }
                due("open at " + k + ", no more", NONE, x.open(0, 0, k, open[k].length));
            }
            // what is no call and no ret neither opens nor closes one: 0 2 3 4 5 1
            TracePackets z = told("call 2;stop;plain;jump 4;if 5;ret;", "n;");
            int[] between = {0, 1, 1, 1, 1, 0};
            for (int k = 0; k < between.length; k++) {
                due("open at " + k, between[k], z.open(0, 0, k, NONE));
            }
            // the tenth call is a STEP, but the RUN does not go on by it
            TracePackets y = told("call 1;call 1;", "");
            due("at the first step", 0, y.open(0, 0, 0, NONE));
            due("at the tenth call", 9, y.open(0, 0, 9, NONE));
            due("the lowest", 0, y.open(0, 0, 9, 0));
            due("the highest", 1, y.open(0, 0, 9, 8));
            due("no tenth one", NONE, y.open(0, 0, 9, 9));
            due("no step behind", NONE, y.open(0, 0, 10, NONE));
        });
        Sentences.holds("Term 5, Promise 12",
                "APART of two DRIVES: the first STEP that is at another ADDRESS by the second than by the"
                + " first, or that only one of both has (none: none).", () -> {
            dueApart("if 2;stop;stop;", "y;", "y;", NONE);
            dueApart("if 2;stop;stop;", "y;", "n;", 1);
            dueApart("if 2;stop;stop;", "y;", "", 1);
            dueApart("if 2;stop;stop;", "", "go 1;", NONE);
            // other CHOICES, one way
            dueApart("if 1;stop;", "y;", "n;", NONE);
            dueApart("if 0;stop;", many("y;", 60), many("y;", 59), 60);
            dueApart("if 0;stop;", many("y;", 59), many("y;", 58) + "n;", 59);
            dueApart("", "y;", "n;", NONE);
            dueApart("jump 0;", "y;", "n;", NONE);
            // as far as the last of 200 STEPS
            dueApart(ROUNDS + "stop;", many("n;", 22) + "n;", TO_THE_LAST, 199);
        });
    }

    private static void dueApart(String code, String one, String two, int want) {
        TracePackets x = told(code, one);
        due("drive '" + two + "'", 1, Checks.tell(x, DRIVE, two));
        due("apart by '" + one + "', '" + two + "' of '" + code + "'", want, x.apart(0, 0, 1));
        due("apart by '" + two + "', '" + one + "' of '" + code + "'", want, x.apart(0, 1, 0));
        due("apart of itself", NONE, x.apart(0, 1, 1));
    }

    // Term 5, of a CODE

    private static void blocks() {
        Sentences.holds("Term 5, Promise 13",
                "Of a CODE: HEADS: ADDRESS 0, TARGETS, ADDRESSES behind an if, a jump, a call, a ret, a via,"
                + " a stop, where there are INSTRUCTIONS, rising: how many; the k-th;", () -> {
            dueHeads("");
            dueHeads("plain;", 0);
            dueHeads(many("plain;", 40), 0);
            for (String word : new String[] {"if 1;", "jump 1;", "call 1;", "ret;", "via;", "stop;"}) {
                // none behind the last one
                dueHeads("plain;" + (word.contains("1") ? word.replace("1", "0") : word), 0);
                dueHeads("plain;plain;" + (word.contains("1") ? word.replace("1", "0") : word) + "plain;plain;", 0, 3);
            }
            for (String word : new String[] {"if ", "jump ", "call "}) {
                dueHeads("plain;plain;" + word + "1;", 0, 1);
                dueHeads("plain;" + word + "3;plain;plain;", 0, 2, 3);
                dueHeads(many("plain;", 39) + word + "39;", 0, 39);
            }
            TracePackets x = new TracePackets();
            Checks.tell(x, CODE, many("ret;", 40));
            due("all of them", 40, x.head(0, NONE));
            due("the last", 39, x.head(0, 39));
        });
        Sentences.holds("Term 5, Promise 14",
                "a BLOCK goes from a HEAD to ahead of the next one: WIDEST: the HEAD of that of most"
                + " INSTRUCTIONS, of several the least (none: none);", () -> {
            dueWidest("", NONE);
            dueWidest("stop;", 0);
            dueWidest("stop;stop;", 0);
            dueWidest("stop;plain;stop;", 1);
            dueWidest("plain;stop;plain;plain;", 0);
            dueWidest("plain;stop;plain;plain;plain;", 2);
            dueWidest(many("plain;", 40), 0);
            dueWidest(many("stop;", 38) + "plain;plain;", 38);
            // a TARGET cuts a BLOCK in two
            dueWidest("plain;plain;plain;plain;jump 2;", 2);
            dueWidest("plain;plain;plain;jump 2;", 0);
        });
        Sentences.holds("Term 5, Promise 14",
                "WARM of a RUN: the HEAD of the BLOCK at whose ADDRESSES most STEPS are, of several the least"
                + " (no STEPS: none).", () -> {
            dueWarm("", "", NONE);
            dueWarm("stop;", "", 0);
            dueWarm("if 0;stop;", "n;", 0);
            dueWarm("if 1;plain;stop;", "n;", 1);
            // one STEP each
            dueWarm("jump 2;stop;jump 1;", "", 0);
            // STEPS that are not TRACED count
            dueWarm("plain;plain;if 1;stop;from 3;", "y;y;n;", 1);
            dueWarm("via;" + many("stop;", 38) + "jump 39;", "go 39;", 39);
        });
    }

    private static void dueHeads(String code, int... heads) {
        TracePackets x = new TracePackets();
        due("code '" + code + "'", 0, Checks.tell(x, CODE, code));
        due("heads of '" + code + "'", heads.length, x.head(0, NONE));
        for (int k = 0; k < heads.length; k++) {
            due("head " + k + " of '" + code + "'", heads[k], x.head(0, k));
        }
        due("no more heads of '" + code + "'", NONE, x.head(0, heads.length));
    }

    private static void dueWidest(String code, int want) {
        due("widest of '" + code + "'", want, told(code, "").block(0, NONE));
    }

    private static void dueWarm(String code, String drive, int want) {
        due("warm of '" + code + "'", want, told(code, drive).block(0, 0));
    }

    private static void deadEnds() {
        Sentences.holds("Term 5, Promise 21",
                "DEAD: INSTRUCTIONS that no way from 0 leads to (via leads anywhere; ret to behind each call"
                + " that a way leads to), as ADDRESSES, rising: how many; the k-th;", () -> {
            dueDead("");
            dueDead("stop;");
            dueDead("stop;stop;", 1);
            dueDead(many("plain;", 40));
            dueDead("if 2;stop;stop;stop;", 3);
            dueDead("if 0;stop;stop;", 2);
            dueDead("plain;if 0;stop;stop;", 3);
            dueDead("jump 0;stop;", 1);
            dueDead("via;" + many("stop;", 39));
            dueDead("stop;via;stop;", 1, 2);
            // a call does not go on to behind it, but a ret does: behind each call that a way leads to, no other
            dueDead("call 0;stop;", 1);
            dueDead("call 2;stop;ret;");
            dueDead("ret;stop;call 0;stop;", 1, 2, 3);
            dueDead("call 4;call 4;stop;call 4;ret;", 3);
            dueDead("if 3;call 6;stop;call 6;stop;stop;ret;", 5);
            dueDead("jump 2;call 3;call 3;ret;stop;", 1, 4);
            // a call as the last INSTRUCTION has nothing behind it
            dueDead("jump 2;ret;call 1;");
            TracePackets x = new TracePackets();
            Checks.tell(x, CODE, many("stop;", 40));
            due("all but the first", 39, x.dead(0, NONE));
            due("the last", 39, x.dead(0, 38));
        });
    }

    private static void dueDead(String code, int... dead) {
        TracePackets x = new TracePackets();
        due("code '" + code + "'", 0, Checks.tell(x, CODE, code));
        due("dead of '" + code + "'", dead.length, x.dead(0, NONE));
        for (int k = 0; k < dead.length; k++) {
            due("dead " + k + " of '" + code + "'", dead[k], x.dead(0, k));
        }
        due("no more dead of '" + code + "'", NONE, x.dead(0, dead.length));
    }

    // Promises 9 to 14, 19 to 21

    /** A call that asks for a CODE and a DRIVE. */
    private interface Asked {
        int of(TracePackets x, int code, int drive);
    }

    /** Without a CODE or a DRIVE of that number the answer is one that says so. */
    private static void dueNoneSuch(int want, Asked call) {
        TracePackets x = new TracePackets();
        due("neither", want, call.of(x, 0, 0));
        Checks.tell(x, CODE, "stop;");
        due("no drive yet", want, call.of(x, 0, 0));
        TracePackets y = new TracePackets();
        Checks.tell(y, DRIVE, "");
        due("no code yet", want, call.of(y, 0, 0));
        Checks.tell(x, DRIVE, "");
        due("no second code", want, call.of(x, 1, 0));
        due("no second drive", want, call.of(x, 0, 1));
        for (int number : STRANGE) {
            due("code " + number, want, call.of(x, number, 0));
            due("drive " + number, want, call.of(x, 0, number));
        }
        due("code -1", want, call.of(x, -1, 0));
        due("drive -1", want, call.of(x, 0, -1));
    }

    private static void answersOfRuns() {
        Sentences.holds("Promise 9",
                "Of a RUN, what 0: STEPS, 1: how it ENDS (3, if there is no INSTRUCTION at all), 2: EDGES, 3:"
                + " LOOPS, 4: DEEPEST, 5: USED, 6: TRACED, 7: RETURNS.", () -> {
            TracePackets x = told("", "y;");
            Checks.tell(x, CODE, "call 3;if 0;stop;mode 1;ret;only 0;");
            Checks.tell(x, DRIVE, "y;n;");
            int[] empty = {0, 3, 0, 0, 0, 0, 0, 0};
            // 0 3 1 0 3 1 2: 5 of them TRACED
            int[] want = {7, 1, 4, 3, 1, 2, 5, 2};
            for (int what = 0; what < 8; what++) {
                due("of no instruction " + what, empty[what], x.run(0, 0, what));
                due("run " + what, want[what], x.run(1, 1, what));
            }
        });
        Sentences.holds("Promise 9", "NONE: there is none such (of either), or for another what.", () -> {
            dueNoneSuch(NONE, (x, code, drive) -> x.run(code, drive, STEPS));
            for (int what : new int[] {-1, -2, 8, 9, 10, 100, LEAST, GREATEST}) {
                due("what " + what, NONE, told("stop;", "").run(0, 0, what));
            }
        });
        Sentences.holds("Promise 10", "ADDRESS of STEP k, or (traced) 1, if it is TRACED, else 0.", () -> {
            TracePackets x = told("jump 39;" + many("stop;", 38) + "jump 0;from 1;", "");
            for (int k = 0; k < 200; k++) {
                due("step " + k, k % 2 == 0 ? 0 : 39, x.step(0, 0, k, false));
                due("step " + k + " traced", k % 2, x.step(0, 0, k, true));
            }
        });
        Sentences.holds("Promise 10", "NONE: not so many, or there is none such (of either).", () -> {
            dueNoneSuch(NONE, (x, code, drive) -> x.step(code, drive, 0, false));
            dueNoneSuch(NONE, (x, code, drive) -> x.step(code, drive, 0, true));
            TracePackets x = told("jump 0;", "");
            TracePackets y = told("", "");
            for (int k : new int[] {-1, -2, 200, 201, LEAST, GREATEST}) {
                due("step " + k, NONE, x.step(0, 0, k, false));
                due("step " + k, NONE, x.step(0, 0, k, true));
            }
            due("of no steps", NONE, y.step(0, 0, 0, false));
            due("of no steps", NONE, y.step(0, 0, 0, true));
        });
        Sentences.holds("Promise 11", "OPEN at STEP k: how many (i NONE), or the i-th.", () -> {
            TracePackets x = told("call 1;stop;", "");
            due("at the first", 0, x.open(0, 0, 0, NONE));
            due("at the last", 1, x.open(0, 0, 1, NONE));
            due("the first", 0, x.open(0, 0, 1, 0));
        });
        Sentences.holds("Promise 11",
                "NONE: not so many, there is no such STEP, there is none such (of either).", () -> {
            dueNoneSuch(NONE, (x, code, drive) -> x.open(code, drive, 0, NONE));
            TracePackets x = told("call 1;stop;", "");
            due("not so many at the first", NONE, x.open(0, 0, 0, 0));
            for (int i : new int[] {1, 2, 9, -2, LEAST, GREATEST}) {
                due("open " + i, NONE, x.open(0, 0, 1, i));
            }
            for (int k : new int[] {-1, -2, 2, 200, LEAST, GREATEST}) {
                due("step " + k, NONE, x.open(0, 0, k, NONE));
                due("step " + k, NONE, x.open(0, 0, k, 0));
            }
            due("of no steps", NONE, told("", "").open(0, 0, 0, NONE));
        });
        Sentences.holds("Promise 12", "APART.", () -> {
            dueApart("if 0;stop;", "y;", "n;", 1);
            dueApart("if 1;stop;if 0;", "y;", "", 1);
        });
        Sentences.holds("Promise 12", "NONE: none, or there is none such (of any).", () -> {
            dueApart("stop;", "y;", "n;", NONE);
            dueApart("", "y;", "n;", NONE);
            dueNoneSuch(NONE, (x, code, drive) -> x.apart(code, drive, 0));
            dueNoneSuch(NONE, (x, code, drive) -> x.apart(code, 0, drive));
            // what is none such is none, though the other DRIVE leads to STEPS
            TracePackets x = told("if 0;stop;", "y;");
            for (int drive : new int[] {-1, -2, 1, 2, LEAST, GREATEST}) {
                due("other " + drive, NONE, x.apart(0, 0, drive));
                due("drive " + drive, NONE, x.apart(0, drive, 0));
            }
        });
        Sentences.holds("Promise 19", "VISITS of an ADDRESS.", () -> {
            TracePackets x = told("jump 39;" + many("stop;", 38) + "jump 0;", "");
            due("the first", 100, x.visits(0, 0, 0));
            due("the last", 100, x.visits(0, 0, 39));
            due("never", 0, x.visits(0, 0, 1));
        });
        Sentences.holds("Promise 19",
                "NONE: there is no INSTRUCTION, or there is none such (of either).", () -> {
            dueNoneSuch(NONE, (x, code, drive) -> x.visits(code, drive, 0));
            TracePackets x = told("stop;stop;", "");
            for (int address : new int[] {-1, -2, 2, 3, 39, 40, LEAST, GREATEST}) {
                due("address " + address, NONE, x.visits(0, 0, address));
            }
            due("the 41st of 40", NONE, told(many("stop;", 40), "").visits(0, 0, 40));
            due("of no instructions", NONE, told("", "").visits(0, 0, 0));
        });
        Sentences.holds("Promise 20", "HOT: the k-th.", () -> {
            dueHot("if 0;stop;", "n;", 0, 1);
            dueHot("jump 1;if 1;", "y;", 1, 0);
        });
        Sentences.holds("Promise 20", "NONE: not so many, or there is none such (of either).", () -> {
            dueNoneSuch(NONE, (x, code, drive) -> x.hot(code, drive, 0));
            TracePackets x = told("plain;stop;stop;", "");
            for (int k : new int[] {-1, -2, 2, 3, 39, 40, 41, LEAST, GREATEST}) {
                due("hot " + k, NONE, x.hot(0, 0, k));
            }
            TracePackets all = told(many("plain;", 40), "");
            due("the 40th", 39, all.hot(0, 0, 39));
            due("no 41st", NONE, all.hot(0, 0, 40));
            due("of no steps", NONE, told("", "").hot(0, 0, 0));
        });
    }

    private static void answersOfCodes() {
        Sentences.holds("Promise 13", "HEADS: how many (k NONE), or the k-th.", () -> {
            dueHeads("");
            dueHeads("stop;stop;", 0, 1);
        });
        Sentences.holds("Promise 13", "NONE: not so many, or there is none such.", () -> {
            TracePackets x = new TracePackets();
            due("no code yet", NONE, x.head(0, NONE));
            Checks.tell(x, CODE, "stop;stop;");
            for (int k : new int[] {2, 3, 40, -2, LEAST, GREATEST}) {
                due("head " + k, NONE, x.head(0, k));
            }
            due("no second code", NONE, x.head(1, NONE));
            due("code -1", NONE, x.head(-1, NONE));
            for (int code : STRANGE) {
                due("code " + code, NONE, x.head(code, NONE));
                due("code " + code, NONE, x.head(code, 0));
            }
            Checks.tell(x, CODE, "");
            due("of no instructions", NONE, x.head(1, 0));
        });
        Sentences.holds("Promise 14", "WIDEST (of DRIVE NONE), or WARM.", () -> {
            TracePackets x = told("stop;plain;plain;", "");
            due("widest", 1, x.block(0, NONE));
            due("warm", 0, x.block(0, 0));
        });
        Sentences.holds("Promise 14", "NONE: none, or there is none such (of either).", () -> {
            dueNoneSuch(NONE, (x, code, drive) -> x.block(code, drive == NONE ? -2 : drive));
            TracePackets x = told("", "");
            due("widest of no instructions", NONE, x.block(0, NONE));
            due("warm of no steps", NONE, x.block(0, 0));
            due("widest of no such code", NONE, x.block(1, NONE));
            due("widest of code -1", NONE, x.block(-1, NONE));
            for (int code : STRANGE) {
                due("widest of code " + code, NONE, x.block(code, NONE));
            }
        });
        Sentences.holds("Promise 21", "DEAD: how many (k NONE), or the k-th.", () -> {
            dueDead("");
            dueDead("stop;stop;stop;", 1, 2);
        });
        Sentences.holds("Promise 21", "NONE: not so many, or there is none such.", () -> {
            TracePackets x = new TracePackets();
            due("no code yet", NONE, x.dead(0, NONE));
            Checks.tell(x, CODE, "stop;stop;stop;");
            for (int k : new int[] {2, 3, 40, -2, LEAST, GREATEST}) {
                due("dead " + k, NONE, x.dead(0, k));
            }
            due("no second code", NONE, x.dead(1, NONE));
            due("code -1", NONE, x.dead(-1, NONE));
            for (int code : STRANGE) {
                due("code " + code, NONE, x.dead(code, NONE));
                due("code " + code, NONE, x.dead(code, 0));
            }
            Checks.tell(x, CODE, "");
            due("of no instructions", NONE, x.dead(1, 0));
        });
    }

    // Promise 24, and what Term 4 says of it

    private static void draws() {
        Sentences.holds("Term 4, Promise 24",
                "DRAWN by a SEED, x; a number below n is drawn: x becomes x * 1103515245 + 12345 (of 32"
                + " bits), it is x shifted right by 16 without sign, remainder by n:", () -> {
            // 32 bits wrap around, and the shift is without sign: each x by arithmetic without bounds
            int[] seeds = {0, 1, -1, 2, 12345, LEAST, GREATEST, -1103515245, 65535, 65536};
            for (int seed : seeds) {
                TracePackets x = new TracePackets();
                Checks.tell(x, CODE, many("via;", 37));
                java.math.BigInteger all = java.math.BigInteger.ONE.shiftLeft(32);
                java.math.BigInteger state = java.math.BigInteger.valueOf(seed).mod(all);
                for (int n = 1; n <= 40; n++) {
                    state = state.multiply(java.math.BigInteger.valueOf(1103515245)).add(java.math.BigInteger.valueOf(12345))
                            .mod(all);
                    int address = state.shiftRight(16).mod(java.math.BigInteger.valueOf(37)).intValueExact();
                    due("draw " + n + " of seed " + seed, address, x.drawn(0, seed, n, 10));
                }
            }
        });
        Sentences.holds("Term 4, Promise 24",
                "a CODE is run by CHOICES that are drawn as they are needed, n of them at most (0 .. 60;"
                + " another one ENDS it as 2):", () -> {
            TracePackets x = new TracePackets();
            Checks.tell(x, CODE, "via;");
            for (int n = 0; n <= 60; n++) {
                due("steps of " + n, n + 1, x.drawn(0, 7, n, STEPS));
                due("end of " + n, 2, x.drawn(0, 7, n, ENDS));
                due("used of " + n, n, x.drawn(0, 7, n, USED));
            }
            // none is needed
            Checks.tellAt(x, CODE, 0, "plain;stop;");
            due("steps of 0", 2, x.drawn(0, 7, 0, STEPS));
            due("end of 0", 1, x.drawn(0, 7, 0, ENDS));
            due("used of 60", 0, x.drawn(0, 7, 60, USED));
            // not by those of a DRIVE that ran it
            Checks.tellAt(x, CODE, 0, "via;");
            Checks.tell(x, DRIVE, "go 1;");
            due("run by a drive", 3, x.run(0, 0, ENDS));
            due("steps of 60", 61, x.drawn(0, 7, 60, STEPS));
            due("run by the drive again", 1, x.run(0, 0, STEPS));
            // 60 are enough for 200 STEPS
            Checks.tellAt(x, CODE, 0, "plain;plain;plain;plain;if 0;jump 0;");
            due("steps of 60", 200, x.drawn(0, 7, 60, STEPS));
            due("end of 60", 5, x.drawn(0, 7, 60, ENDS));
        });
        Sentences.holds("Term 4, Promise 24",
                "at if: a number below 2, 1 yes; at via: an ADDRESS, a number below how many INSTRUCTIONS.", () -> {
            // seed 1: 1103527590 (shifted 16838), 2524885223 (shifted 38526), 662824084 (shifted 10113)
            TracePackets x = new TracePackets();
            Checks.tell(x, CODE, "if 2;stop;stop;");
            due("16838: no", 1, x.drawn(0, 1, 1, 10));
            // seed 3: 3310558080 (shifted 50515)
            due("50515: yes", 2, x.drawn(0, 3, 1, 10));
            Checks.tellAt(x, CODE, 0, "via;");
            due("below 1", 0, x.drawn(0, 1, 1, 10));
            due("below 1, the next", 0, x.drawn(0, 1, 2, 10));
            Checks.tellAt(x, CODE, 0, many("via;", 40));
            due("16838 by 40", 38, x.drawn(0, 1, 1, 10));
            due("38526 by 40", 6, x.drawn(0, 1, 2, 10));
            due("10113 by 40", 33, x.drawn(0, 1, 3, 10));
            // an if and a via draw from one row
            Checks.tellAt(x, CODE, 0, "if 0;via;stop;");
            due("16838 by 2: no; 38526 by 3", 0, x.drawn(0, 1, 2, 10));
        });
        Sentences.holds("Promise 24",
                "DRAWN, n CHOICES at most, what as run() (0 to 5), or 10: the ADDRESS of the last STEP (NONE:"
                + " no STEPS).", () -> {
            TracePackets x = new TracePackets();
            Checks.tell(x, CODE, "");
            int[] empty = {0, 3, 0, 0, 0, 0};
            for (int what = 0; what <= 5; what++) {
                due("of no instructions " + what, empty[what], x.drawn(0, 1, 60, what));
            }
            due("no last step", NONE, x.drawn(0, 1, 60, 10));
            // 16838, no: 0 1 3 4 2
            Checks.tell(x, CODE, "if 0;call 3;stop;plain;ret;");
            int[] want = {5, 1, 4, 1, 1, 1};
            for (int what = 0; what <= 5; what++) {
                due("drawn " + what, want[what], x.drawn(1, 1, 1, what));
            }
            due("the last step", 2, x.drawn(1, 1, 1, 10));
            due("the only step", 0, x.drawn(1, 1, 0, 10));
        });
        Sentences.holds("Promise 24", "NONE: there is none such, another n, or for another what.", () -> {
            TracePackets x = new TracePackets();
            due("no code yet", NONE, x.drawn(0, 1, 1, STEPS));
            Checks.tell(x, CODE, "if 0;stop;");
            due("no second code", NONE, x.drawn(1, 1, 1, STEPS));
            due("code -1", NONE, x.drawn(-1, 1, 1, STEPS));
            for (int code : STRANGE) {
                due("code " + code, NONE, x.drawn(code, 1, 1, STEPS));
            }
            for (int n : new int[] {-1, -2, 61, 62, LEAST, GREATEST}) {
                due("n " + n, NONE, x.drawn(0, 1, n, STEPS));
                due("n " + n, NONE, x.drawn(0, 1, n, 10));
            }
            for (int what : new int[] {-1, -2, 6, 7, 8, 9, 11, LEAST, GREATEST}) {
                due("what " + what, NONE, x.drawn(0, 1, 1, what));
            }
            due("n 0", 1, x.drawn(0, 1, 0, STEPS));
            due("n 60", 1, x.drawn(0, 1, 60, ENDS));
        });
    }
}
