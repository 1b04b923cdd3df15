import java.util.function.IntSupplier;

/** What the document's first lines say: one code, told and followed through all that the class does. */
final class WholeBoundaries {
    private static final int NONE = TracePackets.NONE;
    private static final int CODE = 0;
    private static final int DRIVE = 1;
    private static final int LOSS = 2;
    private static final int LOG = 3;
    private static final int CALLS = 512;
    /** Calls 6, comes back, branches at 1, jumps to 4, goes where it is sent; what stands at 8 and 9 is not traced. */
    private static final String STORY = "call 6;if 0;jump 4;stop;via;stop;plain;ret;mode 1;plain;stop;"
            + "bits 2;deep 1;sync 6;only 0;";
    private static final String STORY_DRIVE = "y;n;go 8;";
    private static final int[] STEPS = {0, 6, 7, 1, 0, 6, 7, 1, 2, 4, 8, 9};

    private static int calls;

    private WholeBoundaries() { }

    static void all() {
        codesAndDrives();
        packetsAndLosses();
        logsAndSeeds();
        manyCalls();
    }

    private static void due(String call, long want, long got) {
        Checks.due(call, want, got);
    }

    private static TracePackets story() {
        return Checks.told(STORY, STORY_DRIVE);
    }

    private static void codesAndDrives() {
        Sentences.holds("What it is, Promise 6",
                "Paths rebuilt from branch packets: codes told as texts, instructions that branch, jump, call,"
                + " come back, go where they are sent, what of them is traced, by which rules;", () -> {
            TracePackets x = story();
            int[] kinds = {3, 1, 2, 6, 5, 6, 0, 4, 0, 6};
            int[] targets = {6, 0, 4, NONE, NONE, NONE, NONE, NONE, NONE, NONE};
            due("instructions", kinds.length, x.code(0, 0));
            for (int a = 0; a < kinds.length; a++) {
                due("kind at " + a, kinds[a], x.code(0, 100 + a));
                due("target at " + a, targets[a], x.code(0, 200 + a));
                due("mode at " + a, a < 8 ? 0 : 1, x.code(0, 300 + a));
            }
            int[] rules = {2, 1, 6, 0, 39, 0, 9, 1};
            for (int i = 0; i < rules.length; i++) {
                due("rule " + i, rules[i], x.code(0, 1 + i));
            }
        });
        Sentences.holds("What it is, Promise 10",
                "drives told as texts, which branches are taken, where it goes;", () -> {
            TracePackets x = story();
            due("choices", 3, x.choice(0, NONE));
            due("steps", STEPS.length, x.run(0, 0, 0));
            due("it stops", 1, x.run(0, 0, 1));
            for (int k = 0; k < STEPS.length; k++) {
                due("step " + k, STEPS[k], x.step(0, 0, k, false));
                due("traced " + k, k < 10 ? 1 : 0, x.step(0, 0, k, true));
            }
            due("another drive", 1, Checks.tell(x, DRIVE, "n;go 0;"));
            due("apart where it branches not", 4, x.apart(0, 0, 1));
        });
    }

    private static void packetsAndLosses() {
        Sentences.holds("What it is, Promise 15",
                "a run is encoded step by step: maps of branch bits, targets by what is new of them, returns that"
                + " need none, syncs now and then, a buffer that overflows;", () -> {
            // the ret at STEP 2 is a bit; that at STEP 6, behind a SYNC, a GOTO of one digit; the via one of two
            Checks.due("packets", "S0,0@0 M11@3 S7,6@6 G1,1@6 M0@9 G8,2@9 F4@10", PacketBoundaries.packetsOf(story()));
            TracePackets full = Checks.told("if 0;stop;bits 1;room 3;rate 9;", Checks.many("y;", 30));
            Checks.due("packets of a full buffer", "S0,0@0 M1@0 M1@1 O@27 S0,0@27 M1@27", PacketBoundaries.packetsOf(full));
            due("dropped", 2, full.sent(0, 0, 4));
            due("fullest", 3, full.sent(0, 0, 5));
            due("gap", 25, full.sent(0, 0, 6));
        });
        Sentences.holds("What it is, Promise 17",
                "losses told as texts, packets that never come: what is rebuilt without them, in which pieces;", () -> {
            TracePackets x = story();
            Checks.tell(x, LOSS, "lose 3;");
            Checks.tell(x, LOSS, "lose 1;");
            Checks.due("nothing is lost", "0 6 7 1 0 6 7 1 2 4", RebuildBoundaries.rebuiltOf(x, NONE));
            Checks.due("the first GOTO is lost", "0 6 7 1 0 6", RebuildBoundaries.rebuiltOf(x, 0));
            Checks.due("the first MAP is lost", "- | 7 1 2 4", RebuildBoundaries.rebuiltOf(x, 1));
            due("missed", 2, x.missed(0, 0, 0, NONE));
            due("missed 0", 2, x.missed(0, 0, 0, 0));
            due("missed 1", 4, x.missed(0, 0, 0, 1));
            // PACKETS 0, 1, 2 leave four STEPS each
            due("worst", 0, x.sent(0, 0, 8));
        });
        Sentences.holds("What it is, Promise 16", "bits each step takes, visits, which addresses are hottest;", () -> {
            TracePackets x = story();
            // 16 and 6 and 16 and 7 and 5 and 10 and 10, by ten STEPS
            due("sum", 70, x.sent(0, 0, 1));
            due("bits of a step", 7, x.sent(0, 0, 2));
            due("by one", 1, x.sent(0, 0, 3));
            int[] hot = {0, 1, 6, 7, 2, 4, 8, 9, NONE};
            for (int k = 0; k < hot.length; k++) {
                due("hot " + k, hot[k], x.hot(0, 0, k));
            }
            int[] visits = {2, 2, 1, 0, 1, 0, 2, 2, 1, 1, NONE};
            for (int a = 0; a < visits.length; a++) {
                due("visits of " + a, visits[a], x.visits(0, 0, a));
            }
        });
    }

    private static void logsAndSeeds() {
        Sentences.holds("What it is, Promise 23", "logs told as texts, which packet was lost by what was seen;", () -> {
            TracePackets x = story();
            Checks.tell(x, LOG, "saw 2 0;saw 1 1;");
            Checks.tell(x, LOG, "saw 0 2;saw 7 1;");
            due("how many fit", 3, x.fits(0, 0, 0, 0));
            for (int k = 0; k < 3; k++) {
                due("fits " + k, 2 + k, x.fits(0, 0, 0, 10 + k));
            }
            due("no more", -2, x.fits(0, 0, 0, 13));
            due("ask", 0, x.fits(0, 0, 0, 1));
            due("only one fits", 1, x.fits(0, 0, 1, 0));
            due("it is the GOTO", 3, x.fits(0, 0, 1, 10));
        });
        Sentences.holds("What it is, Promise 24", "runs by a seed.", () -> {
            TracePackets x = story();
            // by 4: yes, no, to 9; by 6: no, to 5
            due("steps by 4", 11, x.drawn(0, 4, 60, 0));
            due("used by 4", 3, x.drawn(0, 4, 60, 5));
            due("the last by 4", 9, x.drawn(0, 4, 60, 10));
            due("steps by 6", 7, x.drawn(0, 6, 60, 0));
            due("the last by 6", 5, x.drawn(0, 6, 60, 10));
            due("the last by 6 of one choice", 4, x.drawn(0, 6, 1, 10));
        });
    }

    private static void dueCounted(String call, long want, IntSupplier asked) {
        calls++;
        due("call " + calls + ", " + call, want, asked.getAsInt());
    }

    private static void feedCounted(TracePackets x, String text) {
        int length = 0;
        for (int[] row : Checks.rows(text)) {
            length += 20;
            dueCounted("feed", length, () -> x.feed(row[0], row[1], row[2], row[3], row[4]));
        }
        dueCounted("end", text.length(), () -> x.end(text.length()));
    }

    private static void manyCalls() {
        Sentences.holds("What it is, Promise 1",
                "An object is used for at most 512 calls after it has been made; what later calls answer is free.", () -> {
            calls = 0;
            TracePackets x = new TracePackets();
            String[] texts = {STORY, STORY_DRIVE, "lose 3;", "saw 0 2;saw 7 1;"};
            for (int sort = 0; sort < texts.length; sort++) {
                int which = sort;
                feedCounted(x, texts[sort]);
                dueCounted("text", 0, () -> x.text(which, NONE));
            }
            dueCounted("image", 1, () -> x.image(1) ? 1 : 0);
            while (calls < CALLS - 11) {
                dueCounted("feed", 20, () -> x.feed(0, 0, 0, 0, 0));
                dueCounted("text", NONE, () -> x.text(CODE, 0));
                dueCounted("fault", 1, () -> x.fault(0));
                dueCounted("sum", 70, () -> x.sent(0, 0, 1));
                dueCounted("least", 2, () -> x.sent(0, 0, 7));
                dueCounted("rebuilt", 6, () -> x.rebuilt(0, 0, 0, 0));
                dueCounted("fits", 3, () -> x.fits(0, 0, 0, 10));
                dueCounted("empty", 1, () -> x.text(DRIVE, NONE));
                dueCounted("run", 4, () -> x.run(0, 1, 0));
                dueCounted("drawn", 11, () -> x.drawn(0, 4, 60, 0));
                dueCounted("again", 1, () -> x.again(1) ? 1 : 0);
            }
            while (calls < CALLS) {
                dueCounted("steps", STEPS.length, () -> x.run(0, 0, 0));
            }
        });
    }
}
