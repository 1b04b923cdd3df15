/** The promises of the document, one by one: ordinary inputs, the edges that it names, wrong inputs. */
public final class PromiseTest {
    private static final int NONE = TracePackets.NONE;
    private static final int CODE = 0;
    private static final int DRIVE = 1;
    private static final int LOSS = 2;
    private static final int LOG = 3;

    /** A loop with a call in it, left by an if to a via. */
    private static final String LOOP = "if 4;call 6;plain;jump 0;via;stop;plain;ret;";
    private static final int[] LOOP_STEPS = {0, 1, 6, 7, 2, 3, 0, 1, 6, 7, 2, 3, 0, 4, 5};
    /** Fills its buffer, goes blind, and sees again at STEP 8. */
    private static final String FULL = "if 0;stop;bits 1;room 3;rate 2;";
    private static final String FULL_DRIVE = "y;y;y;y;y;y;y;y;y;n;";

    private PromiseTest() { }

    public static void main(String[] args) {
        newObject();
        feed();
        end();
        text();
        faultOfTexts();
        faultOrder();
        code();
        choice();
        loss();
        run();
        runEndings();
        step();
        open();
        apart();
        head();
        block();
        packet();
        packetRules();
        packetOverflow();
        packetDrops();
        sent();
        rebuilt();
        rebuiltPieces();
        missed();
        visits();
        hot();
        dead();
        fact();
        fits();
        drawn();
        count();
        images();
        Checks.close("PromiseTest");
    }

    private static void due(String call, long want, long got) {
        Checks.due(call, want, got);
    }

    private static TracePackets told(String code, String drive) {
        return Checks.told(code, drive);
    }

    private static TracePackets loop() {
        return told(LOOP, "n;n;y;go 5;");
    }

    private static TracePackets full() {
        return told(FULL, FULL_DRIVE);
    }

    private static String many(String part, int times) {
        return part.repeat(times);
    }

    // 1
    private static void newObject() {
        TracePackets x = new TracePackets();
        due("NONE", -1, TracePackets.NONE);
        for (int sort = 0; sort < 4; sort++) {
            due("new: count", 0, x.count(sort));
        }
        due("new: the tape", NONE, x.end(1));
        due("new: fault(0)", 0, x.fault(0));
        due("new: fault(1)", NONE, x.fault(1));
        for (int k = 0; k < 3; k++) {
            Checks.due("new: again", false, x.again(k));
        }
        due("new: code", -2, x.code(0, 0));
        due("new: choice", -2, x.choice(0, NONE));
        due("new: loss", -2, x.loss(0, NONE));
        due("new: fact", -2, x.fact(0, NONE, 0));
        due("new: run", NONE, x.run(0, 0, 0));
        due("new: head", NONE, x.head(0, NONE));
        due("new: dead", NONE, x.dead(0, NONE));
        due("new: block", NONE, x.block(0, NONE));
        due("new: drawn", NONE, x.drawn(0, 1, 1, 0));
        due("new: sent", -2, x.sent(0, 0, 0));
        due("new: fits", -2, x.fits(0, 0, 0, 0));
    }

    // 2
    private static void feed() {
        TracePackets x = new TracePackets();
        for (int i = 1; i <= 30; i++) {
            due("feed", 20 * i, x.feed(0, 0, 0, 0, 0));
        }
        due("feed beyond 600", NONE, x.feed(0, 0, 0, 0, 0));
        due("nothing came", 600, x.end(600));
        due("end(581)", 581, x.end(581));
        due("feed to 601", NONE, x.feed(0, 0, 0, 0, 0));
        due("end(580)", 580, x.end(580));
        due("feed to 600", 600, x.feed(0, 0, 0, 0, 0));
        x.end(0);
        // 'y;n;' and so on: of each number the highest byte first
        x.feed(0x793b6e3b, 0x676f2037, 0x3b793b20, 0x20202020, 0x0a0a0a6e);
        x.feed(0x3b202020, 0x20202020, 0x20202020, 0x20202020, 0x20202020);
        due("the bytes in order", 0, x.text(DRIVE, NONE));
        int[] choices = {101, 100, 7, 101, 100};
        due("five choices", 5, x.choice(0, NONE));
        for (int k = 0; k < 5; k++) {
            due("choice " + k, choices[k], x.choice(0, k));
        }
    }

    // 3
    private static void end() {
        TracePackets x = new TracePackets();
        due("end(0) of an empty tape", 0, x.end(0));
        due("end(1) of an empty tape", NONE, x.end(1));
        x.feed(0x793b793b, 0x793b793b, 0x793b793b, 0x793b793b, 0x793b793b);
        due("end(21)", NONE, x.end(21));
        due("end(-1)", NONE, x.end(-1));
        due("end(least)", NONE, x.end(Integer.MIN_VALUE));
        due("end(greatest)", NONE, x.end(Integer.MAX_VALUE));
        due("end(20)", 20, x.end(20));
        due("end(6)", 6, x.end(6));
        due("what is gone stays gone", NONE, x.end(7));
        due("feed behind the end", 26, x.feed(0x20202020, 0x20202020, 0x20202020, 0x20202020, 0x2020203b));
        due("end(25)", 25, x.end(25));
        due("three choices", 0, x.text(DRIVE, NONE));
        due("three choices", 3, x.choice(0, NONE));
    }

    // 4
    private static void text() {
        TracePackets x = new TracePackets();
        for (int sort = 0; sort < 4; sort++) {
            due("an empty text", 0, x.text(sort, NONE));
            due("a place that is not yet", -2, x.text(sort, 1));
            due("a second one", 1, x.text(sort, NONE));
            due("a third one", -2, x.text(sort, NONE));
            due("place 2", -2, x.text(sort, 2));
            due("place -2", -2, x.text(sort, -2));
            due("two of them", 2, x.count(sort));
        }
        due("in the place of the second", 1, Checks.tellAt(x, DRIVE, 1, "y;"));
        due("the second", 1, x.choice(1, NONE));
        due("the first", 0, x.choice(0, NONE));
        due("the tape is empty", NONE, x.end(1));
        due("a fault", NONE, Checks.tellAt(x, DRIVE, 1, "y;y"));
        due("the tape is empty then, too", NONE, x.end(1));
        due("what was is still", 1, x.choice(1, NONE));
        due("it is a fault", 1, x.fault(0));
        due("no such sort", -2, Checks.tell(x, 4, "y;y"));
        due("the tape is empty then, too", NONE, x.end(1));
        due("fault 0 then", 0, x.fault(0));
        due("no place then", NONE, x.fault(1));
        due("no such sort", -2, Checks.tell(x, -1, ""));
        Checks.tellAt(x, DRIVE, 1, "!");
        due("full, and no text is read", -2, Checks.tell(x, DRIVE, "!"));
        due("fault 0 then", 0, x.fault(0));
        due("an empty text in a place", 1, Checks.tellAt(x, DRIVE, 1, ""));
        due("has no choices", 0, x.choice(1, NONE));
        TracePackets y = new TracePackets();
        due("a fault makes no code", NONE, Checks.tell(y, CODE, "if 1;"));
        due("a fault makes no code", 0, y.count(CODE));
        due("a code", 0, Checks.tell(y, CODE, "\n if0 ;\n\n  plain;stop ; "));
        due("a code", 3, y.code(0, 0));
        due("a later text replaces all", 0, Checks.tellAt(y, CODE, 0, "stop;"));
        due("a later text replaces all", 1, y.code(0, 0));
    }

    private static void dueFault(int sort, String text, int fault, int place) {
        TracePackets x = new TracePackets();
        due("text of '" + text + "'", fault == 0 ? 0 : NONE, Checks.tell(x, sort, text));
        due("fault of '" + text + "'", fault, x.fault(0));
        due("place of '" + text + "'", place, x.fault(1));
        due("fault(2)", NONE, x.fault(2));
        due("fault(-1)", NONE, x.fault(-1));
        due("count behind '" + text + "'", fault == 0 ? 1 : 0, x.count(sort));
    }

    // 5
    private static void faultOfTexts() {
        dueFault(CODE, "", 0, NONE);
        dueFault(CODE, " \n ", 0, NONE);
        dueFault(CODE, "plain", 1, 5);
        dueFault(CODE, "plain ", 1, 6);
        dueFault(CODE, "plai;", 1, 0);
        dueFault(CODE, "plains;", 1, 0);
        dueFault(CODE, "plain plain;", 1, 6);
        dueFault(CODE, "plain 4;", 1, 6);
        dueFault(CODE, ";", 1, 0);
        dueFault(CODE, "plain;;", 1, 6);
        dueFault(CODE, "if;", 1, 2);
        dueFault(CODE, "if", 1, 2);
        dueFault(CODE, "if 0", 1, 4);
        dueFault(CODE, "if 000;", 1, 3);
        dueFault(CODE, "if 0 0;", 1, 5);
        dueFault(CODE, "if 00;", 0, NONE);
        dueFault(CODE, "if0;", 0, NONE);
        dueFault(CODE, "Plain;", 1, 0);
        dueFault(CODE, "plain\t;", 1, 5);
        dueFault(CODE, "plain;\u00e9", 1, 6);
        dueFault(CODE, "plain;\u0000", 1, 6);
        dueFault(CODE, "plainz;", 1, 0);
        dueFault(CODE, "y;", 1, 0);
        dueFault(CODE, "n;", 1, 0);
        dueFault(CODE, "lose 1;", 1, 0);
        dueFault(DRIVE, "stop;", 1, 0);
        dueFault(DRIVE, "rate 1;", 1, 0);
        dueFault(DRIVE, "lose 1;", 1, 0);
        dueFault(LOSS, "go 1;", 1, 0);
        dueFault(LOSS, "saw 1 1;", 1, 0);
        dueFault(LOG, "lose 1;", 1, 0);
        dueFault(DRIVE, "y 1;", 1, 2);
        dueFault(DRIVE, "yn;", 1, 0);
        dueFault(DRIVE, "go;", 1, 2);
        dueFault(DRIVE, "go 39;go0;", 0, NONE);
        dueFault(DRIVE, "go 40;", 2, 3);
        dueFault(LOSS, "lose 99;lose 0;", 0, NONE);
        dueFault(LOSS, "lose 100;", 1, 5);
        dueFault(LOSS, "lose ;", 1, 5);
        dueFault(LOG, "saw 39 99;saw 0 0;", 0, NONE);
        dueFault(LOG, "saw 40 0;", 2, 4);
        dueFault(LOG, "saw 1;", 1, 5);
        dueFault(LOG, "saw 1 2 3;", 1, 8);
        dueFault(LOG, "saw 12;", 1, 6);
        dueFault(LOG, "saw 1 100;", 1, 6);
        String[] least = {"mode 0", "bits 1", "deep 0", "sync 2", "from 0", "to 0", "only 0", "room 3", "rate 1"};
        String[] most = {"mode 1", "bits 9", "deep 4", "sync 99", "from 39", "to 39", "only 2", "room 9", "rate 9"};
        String[] below = {"", "bits 0", "", "sync 1", "", "", "", "room 2", "rate 0"};
        String[] above = {"mode 2", "bits 10", "deep 5", "", "from 40", "to 40", "only 3", "room 10", "rate 10"};
        for (int i = 0; i < least.length; i++) {
            dueFault(CODE, least[i] + ";", 0, NONE);
            dueFault(CODE, most[i] + ";", 0, NONE);
            for (String wrong : new String[] {below[i], above[i]}) {
                if (!wrong.isEmpty()) {
                    dueFault(CODE, wrong + ";", 2, wrong.indexOf(' ') + 1);
                }
            }
        }
        for (String word : new String[] {"if", "jump", "call"}) {
            dueFault(CODE, word + " 40;", 2, word.length() + 1);
            dueFault(CODE, word + " 1;", 4, word.length() + 3);
            dueFault(CODE, word + " 1;stop; ", 0, NONE);
            dueFault(CODE, word + " 39;" + many("stop;", 38) + " ", 4, word.length() + 4 + 38 * 5 + 1);
            dueFault(CODE, word + " 39;" + many("stop;", 39), 0, NONE);
        }
    }

    private static void faultOrder() {
        dueFault(CODE, many("plain;", 40), 0, NONE);
        dueFault(CODE, many("plain;", 41), 3, 240);
        dueFault(CODE, many("plain;", 40) + "bits 3;", 0, NONE);
        dueFault(CODE, many("plain;", 40) + "mode 1;rate 2;", 0, NONE);
        dueFault(CODE, many("plain;", 40) + "if 40;", 3, 240);
        dueFault(CODE, "if 40;" + many("plain;", 40), 2, 3);
        dueFault(CODE, many("plain;", 41) + "if", 1, 248);
        dueFault(CODE, "if 40;plain;if !", 1, 15);
        dueFault(CODE, "if 40;jump 39;", 2, 3);
        // a line with a wrong number tells its instruction all the same
        dueFault(CODE, many("if 40;", 41), 2, 3);
        dueFault(DRIVE, many("y;", 60), 0, NONE);
        dueFault(DRIVE, many("y;", 61), 3, 120);
        dueFault(DRIVE, many("n;", 61), 3, 120);
        dueFault(DRIVE, many("go 1;", 61), 3, 300);
        dueFault(DRIVE, many("y;", 60) + "go 40;", 3, 120);
        dueFault(LOSS, many("lose 0;", 12), 0, NONE);
        dueFault(LOSS, many("lose 0;", 13), 3, 84);
        dueFault(LOG, many("saw 0 0;", 8), 0, NONE);
        dueFault(LOG, many("saw 0 0;", 9), 3, 64);
        TracePackets x = new TracePackets();
        Checks.tell(x, CODE, "if 40;");
        due("fault of the latest", 2, x.fault(0));
        Checks.tell(x, CODE, "stop;");
        due("fault of the latest", 0, x.fault(0));
        due("place of the latest", NONE, x.fault(1));
    }

    // 6
    private static void code() {
        TracePackets x = new TracePackets();
        Checks.tell(x, CODE, "plain;mode 1;if 6;jump 1;call 0;mode 0;ret;via;stop;");
        int[] kinds = {0, 1, 2, 3, 4, 5, 6};
        int[] targets = {NONE, 6, 1, 0, NONE, NONE, NONE};
        int[] modes = {0, 1, 1, 1, 0, 0, 0};
        due("instructions", 7, x.code(0, 0));
        for (int a = 0; a < 7; a++) {
            due("kind " + a, kinds[a], x.code(0, 100 + a));
            due("target " + a, targets[a], x.code(0, 200 + a));
            due("mode " + a, modes[a], x.code(0, 300 + a));
        }
        int[] atFirst = {6, 2, 20, 0, 39, 2, 9, 1};
        for (int what = 1; what <= 8; what++) {
            due("rule " + what + " at first", atFirst[what - 1], x.code(0, what));
        }
        int[] strange = {-1, 9, 10, 99, 107, 140, 199, 207, 307, 399, 400, Integer.MIN_VALUE, Integer.MAX_VALUE};
        for (int what : strange) {
            due("code(0, " + what + ")", -2, x.code(0, what));
        }
        due("code(1, 0)", -2, x.code(1, 0));
        due("code(-1, 0)", -2, x.code(-1, 0));
        Checks.tell(x, CODE, "rate 2;room 4;only 0;to 5;from 7;sync 9;deep 3;bits 4;bits 8;rate 9;from 8;to 6;only 1;"
                + "room 5;sync 10;deep 4;");
        int[] later = {8, 4, 10, 8, 6, 1, 5, 9};
        for (int what = 1; what <= 8; what++) {
            due("rule " + what + ", the later one", later[what - 1], x.code(1, what));
        }
        due("no instructions", 0, x.code(1, 0));
        due("no instruction at 0", -2, x.code(1, 100));
        Checks.tellAt(x, CODE, 1, "stop;");
        due("a new text begins anew", 6, x.code(1, 1));
    }

    // 7
    private static void choice() {
        TracePackets x = new TracePackets();
        Checks.tell(x, DRIVE, "y;n;go 0;go 39;n;");
        int[] choices = {101, 100, 0, 39, 100};
        due("choices", 5, x.choice(0, NONE));
        for (int k = 0; k < 5; k++) {
            due("choice " + k, choices[k], x.choice(0, k));
        }
        due("not so many", -2, x.choice(0, 5));
        due("k -2", -2, x.choice(0, -2));
        due("no drive 1", -2, x.choice(1, NONE));
        due("no drive -1", -2, x.choice(-1, NONE));
        Checks.tell(x, DRIVE, many("go 7;", 60));
        due("60 choices", 60, x.choice(1, NONE));
        due("the last", 7, x.choice(1, 59));
        due("no 61st", -2, x.choice(1, 60));
    }

    // 8
    private static void loss() {
        TracePackets x = new TracePackets();
        Checks.tell(x, LOSS, "lose 3;lose 99;lose 1;lose 3;lose 0;");
        int[] packets = {0, 1, 3, 99};
        due("packets", 4, x.loss(0, NONE));
        for (int k = 0; k < 4; k++) {
            due("packet " + k, packets[k], x.loss(0, k));
        }
        due("not so many", -2, x.loss(0, 4));
        due("k -2", -2, x.loss(0, -2));
        due("no loss 1", -2, x.loss(1, NONE));
        due("no loss -1", -2, x.loss(-1, 0));
        Checks.tell(x, LOSS, "lose 12;lose 11;lose 10;lose 9;lose 8;lose 7;lose 6;lose 5;lose 4;lose 3;lose 2;lose 1;");
        due("12 packets", 12, x.loss(1, NONE));
        for (int k = 0; k < 12; k++) {
            due("rising", k + 1, x.loss(1, k));
        }
    }

    private static void dueRun(String code, String drive, int... want) {
        TracePackets x = told(code, drive);
        for (int what = 0; what < want.length; what++) {
            due("run of '" + code + "' by '" + drive + "', what " + what, want[what], x.run(0, 0, what));
        }
    }

    // 9
    private static void run() {
        TracePackets x = loop();
        int[] want = {15, 1, 8, 4, 1, 4, 15, 2};
        for (int what = 0; what < 8; what++) {
            due("run " + what, want[what], x.run(0, 0, what));
        }
        for (int what : new int[] {-1, 8, 10, Integer.MIN_VALUE, Integer.MAX_VALUE}) {
            due("run " + what, NONE, x.run(0, 0, what));
        }
        due("no code", NONE, x.run(1, 0, 0));
        due("no drive", NONE, x.run(0, 1, 0));
        due("no code -1", NONE, x.run(-1, 0, 0));
        due("no drive -1", NONE, x.run(0, -1, 0));
        // couples are counted once, one of an address with itself, too; a step to itself is a loop
        dueRun("if 0;stop;", "y;y;y;n;", 5, 1, 2, 3, 0, 4, 5, 0);
        // yes and no lead to one address
        dueRun("if 1;if 2;stop;", "y;n;", 3, 1, 2, 0, 0, 2, 3, 0);
        dueRun("mode 1;plain;mode 0;plain;plain;stop;only 1;", "", 4, 1, 3, 0, 0, 0, 1, 0);
        dueRun("mode 1;plain;mode 0;plain;plain;stop;only 0;", "", 4, 1, 3, 0, 0, 0, 3, 0);
        dueRun("plain;plain;plain;stop;from 1;to 2;", "", 4, 1, 3, 0, 0, 0, 2, 0);
        dueRun("plain;plain;plain;stop;from 2;to 1;", "", 4, 1, 3, 0, 0, 0, 0, 0);
    }

    private static void runEndings() {
        dueRun("", "", 0, 3, 0, 0, 0, 0, 0, 0);
        dueRun("bits 3;", "y;", 0, 3, 0, 0, 0, 0, 0, 0);
        dueRun("stop;", "", 1, 1, 0, 0, 0, 0, 1, 0);
        dueRun("plain;", "", 1, 3, 0, 0, 0, 0, 1, 0);
        dueRun("if 0;", "n;y;", 1, 3, 0, 0, 0, 1, 1, 0);
        dueRun("if 0;", "", 1, 2, 0, 0, 0, 0, 1, 0);
        dueRun("if 0;", "y;go 0;", 2, 2, 1, 1, 0, 1, 2, 0);
        dueRun("via;", "y;", 1, 2, 0, 0, 0, 0, 1, 0);
        dueRun("via;", "", 1, 2, 0, 0, 0, 0, 1, 0);
        dueRun("via;", "go 0;go 1;go 0;", 2, 3, 1, 1, 0, 2, 2, 0);
        dueRun("ret;", "", 1, 4, 0, 0, 0, 0, 1, 0);
        // the tenth call finds nine on the stack
        dueRun("call 0;", "", 10, 4, 1, 9, 9, 0, 10, 0);
        dueRun("plain;call 1;", "", 11, 4, 2, 9, 9, 0, 11, 0);
        // back to where there is no instruction
        dueRun("jump 2;ret;call 1;", "", 3, 3, 2, 1, 1, 0, 3, 1);
        dueRun("jump 0;", "", 200, 5, 1, 199, 0, 0, 200, 0);
        // each call takes 35 steps; 4, 33, 4 and 1 unlike couples
        dueRun("call 5;call 5;call 5;call 5;jump 0;" + many("plain;", 33) + "ret;", "", 200, 5, 42, 6, 1, 0, 200, 5);
        dueRun("plain;if 0;plain;stop;", many("y;", 60), 122, 2, 2, 60, 0, 60, 122, 0);
        StringBuilder rounds = new StringBuilder("if 9;");
        rounds.append(many("plain;", 7)).append("jump 0;").append("stop;");
        // 22 rounds of 9 steps, then the if and the stop: 200 steps
        dueRun(rounds.toString(), many("n;", 22) + "y;", 200, 1, 10, 22, 0, 23, 200, 0);
        dueRun(rounds.toString(), many("n;", 22) + "go 1;", 199, 2, 9, 22, 0, 22, 199, 0);
        dueRun(rounds.toString(), many("n;", 23), 200, 5, 9, 22, 0, 23, 200, 0);
        // a call as the 200th step still puts upon the stack, an if still uses its choice
        dueRun("if 9;" + many("plain;", 7) + "jump 0;call 0;", many("n;", 22) + "y;", 200, 5, 10, 22, 1, 23, 200, 0);
        dueRun("if 9;" + many("plain;", 7) + "jump 0;if 0;", many("n;", 22) + "y;n;", 200, 3, 10, 22, 0, 24, 200, 0);
        dueRun("if 9;" + many("plain;", 7) + "jump 0;if 0;", many("n;", 22) + "y;y;", 200, 5, 10, 22, 0, 24, 200, 0);
        dueRun("if 9;" + many("plain;", 7) + "jump 0;ret;", many("n;", 22) + "y;", 200, 4, 10, 22, 0, 23, 200, 0);
    }

    // 10
    private static void step() {
        TracePackets x = loop();
        for (int k = 0; k < LOOP_STEPS.length; k++) {
            due("step " + k, LOOP_STEPS[k], x.step(0, 0, k, false));
            due("step " + k + " traced", 1, x.step(0, 0, k, true));
        }
        due("not so many", NONE, x.step(0, 0, 15, false));
        due("not so many", NONE, x.step(0, 0, 15, true));
        due("k -1", NONE, x.step(0, 0, -1, false));
        due("k greatest", NONE, x.step(0, 0, Integer.MAX_VALUE, true));
        due("no code", NONE, x.step(1, 0, 0, false));
        due("no drive", NONE, x.step(0, 1, 0, true));
        TracePackets y = told("plain;mode 1;plain;plain;mode 0;plain;stop;only 1;from 2;to 3;", "");
        int[] traced = {0, 0, 1, 0, 0};
        for (int k = 0; k < 5; k++) {
            due("step " + k + " traced", traced[k], y.step(0, 0, k, true));
        }
    }

    // 11
    private static void open() {
        // 0 call 3, 1 call 5, 2 stop, 3 call 5, 4 ret, 5 ret: 0 3 5 4 1 5 2
        TracePackets x = told("call 3;call 5;stop;call 5;ret;ret;", "");
        int[] steps = {0, 3, 5, 4, 1, 5, 2};
        int[][] open = {{}, {0}, {0, 3}, {0}, {}, {1}, {}};
        for (int k = 0; k < steps.length; k++) {
            due("step " + k, steps[k], x.step(0, 0, k, false));
            due("open at " + k, open[k].length, x.open(0, 0, k, NONE));
            for (int i = 0; i < open[k].length; i++) {
                due("open at " + k + ", " + i, open[k][i], x.open(0, 0, k, i));
            }
            due("open at " + k + ", not so many", NONE, x.open(0, 0, k, open[k].length));
        }
        due("i -2", NONE, x.open(0, 0, 2, -2));
        due("no such step", NONE, x.open(0, 0, 7, NONE));
        due("no step -1", NONE, x.open(0, 0, -1, NONE));
        due("no code", NONE, x.open(1, 0, 0, NONE));
        due("no drive", NONE, x.open(0, 1, 0, NONE));
        TracePackets y = told("call 0;", "");
        due("nine are open at the tenth call", 9, y.open(0, 0, 9, NONE));
        due("the highest", 0, y.open(0, 0, 9, 8));
    }

    // 12
    private static void apart() {
        TracePackets x = loop();
        Checks.tell(x, DRIVE, "n;y;go 5;");
        due("apart", 7, x.apart(0, 0, 1));
        due("apart, the other way", 7, x.apart(0, 1, 0));
        due("not apart of itself", NONE, x.apart(0, 0, 0));
        Checks.tellAt(x, DRIVE, 1, "n;n;");
        due("only one has it", 13, x.apart(0, 0, 1));
        due("only one has it", 13, x.apart(0, 1, 0));
        Checks.tellAt(x, DRIVE, 1, "n;n;y;go 5;y;");
        due("as many, as the same", NONE, x.apart(0, 0, 1));
        due("no code", NONE, x.apart(1, 0, 1));
        due("no drive", NONE, x.apart(0, 2, 1));
        due("no other", NONE, x.apart(0, 0, 2));
        due("no other -1", NONE, x.apart(0, 0, -1));
        Checks.tell(x, CODE, "");
        due("no steps of either", NONE, x.apart(1, 0, 1));
    }

    private static void dueHeads(String code, int... heads) {
        TracePackets x = new TracePackets();
        Checks.tell(x, CODE, code);
        due("heads of '" + code + "'", heads.length, x.head(0, NONE));
        for (int k = 0; k < heads.length; k++) {
            due("head " + k + " of '" + code + "'", heads[k], x.head(0, k));
        }
        due("not so many", NONE, x.head(0, heads.length));
        due("k -2", NONE, x.head(0, -2));
    }

    // 13
    private static void head() {
        dueHeads("");
        dueHeads("plain;plain;plain;", 0);
        dueHeads("stop;", 0);
        dueHeads("if 4;call 6;plain;jump 0;via;stop;plain;ret;", 0, 1, 2, 4, 5, 6);
        dueHeads("plain;if 3;plain;plain;plain;", 0, 2, 3);
        dueHeads("plain;jump 4;plain;plain;plain;", 0, 2, 4);
        dueHeads("plain;call 4;plain;plain;plain;", 0, 2, 4);
        dueHeads("plain;ret;plain;", 0, 2);
        dueHeads("plain;via;plain;", 0, 2);
        dueHeads("plain;stop;plain;", 0, 2);
        dueHeads("plain;plain;jump 1;", 0, 1);
        TracePackets x = new TracePackets();
        due("no code", NONE, x.head(0, NONE));
        due("no code -1", NONE, x.head(-1, 0));
        Checks.tell(x, CODE, many("stop;", 40));
        due("40 heads", 40, x.head(0, NONE));
        due("the last head", 39, x.head(0, 39));
        due("no more", NONE, x.head(0, 40));
    }

    // 14
    private static void block() {
        TracePackets x = loop();
        // blocks: 0, 1, 2 3, 4, 5, 6 7
        due("widest, the least of two", 2, x.block(0, NONE));
        // 3, 2, 4, 1, 1, 4 steps
        due("warm, the least of two", 2, x.block(0, 0));
        Checks.tell(x, DRIVE, "y;go 6;");
        due("warm", 6, x.block(0, 1));
        due("no code", NONE, x.block(1, NONE));
        due("no drive", NONE, x.block(0, 2));
        due("drive -2", NONE, x.block(0, -2));
        Checks.tell(x, CODE, "");
        due("widest of nothing", NONE, x.block(1, NONE));
        due("warm of no steps", NONE, x.block(1, 0));
        Checks.tellAt(x, CODE, 1, "stop;plain;plain;plain;");
        due("widest is never run", 1, x.block(1, NONE));
        due("warm", 0, x.block(1, 0));
    }

    private static void duePackets(TracePackets x, int[][] packets) {
        for (int k = 0; k < packets.length; k++) {
            for (int what = 0; what < 5; what++) {
                due("packet " + k + ", " + what, packets[k][what], x.packet(0, 0, k, what));
            }
        }
        due("how many packets", packets.length, x.sent(0, 0, 0));
        due("not so many", NONE, x.packet(0, 0, packets.length, 0));
        due("k -1", NONE, x.packet(0, 0, -1, 0));
    }

    private static void duePackets(String code, String drive, int[][] packets) {
        duePackets(told(code, drive), packets);
    }

    // 15
    private static void packet() {
        TracePackets x = loop();
        duePackets(x, new int[][] {{0, 0, 0, 16, 0}, {1, 26, 5, 9, 13}, {2, 5, 1, 7, 13}, {4, 15, 0, 10, 15}});
        due("what 5", NONE, x.packet(0, 0, 0, 5));
        due("what -1", NONE, x.packet(0, 0, 0, -1));
        due("no code", NONE, x.packet(1, 0, 0, 0));
        due("no drive", NONE, x.packet(0, 1, 0, 0));
        due("k greatest", NONE, x.packet(0, 0, Integer.MAX_VALUE, 0));
        duePackets("", "", new int[][] {});
        duePackets("stop;", "", new int[][] {{0, 0, 0, 16, 0}, {4, 1, 0, 10, 1}});
        duePackets("stop;from 1;", "", new int[][] {});
        // a choice that ends the run, a ret with an empty stack: nothing comes, but the step is counted
        duePackets("if 0;", "y;", new int[][] {{0, 0, 0, 16, 0}, {1, 1, 1, 5, 2}, {4, 2, 0, 10, 2}});
        duePackets("via;", "", new int[][] {{0, 0, 0, 16, 0}, {4, 1, 0, 10, 1}});
        duePackets("ret;", "", new int[][] {{0, 0, 0, 16, 0}, {4, 1, 0, 10, 1}});
        // an address where there is no instruction is told all the same
        duePackets("via;", "go 39;", new int[][] {{0, 0, 0, 16, 0}, {2, 39, 2, 10, 0}, {4, 1, 0, 10, 1}});
    }

    private static void packetRules() {
        // a map that is full is put at that step; BITS 2
        duePackets("if 0;stop;bits 2;", "y;y;y;n;", new int[][] {{0, 0, 0, 16, 0}, {1, 3, 2, 6, 1}, {1, 1, 2, 6, 3},
                {4, 5, 0, 10, 5}});
        // digits: one if the high one is that of the last address, which a GOTO changes
        duePackets("via;" + many("plain;", 7) + "via;plain;via;stop;", "go 8;go 10;go 1;go 11;",
                new int[][] {{0, 0, 0, 16, 0}, {2, 8, 2, 10, 0}, {2, 10, 1, 7, 1}, {2, 1, 2, 10, 2}, {2, 11, 2, 10, 10},
                    {4, 12, 0, 10, 12}});
        // SYNC again if PERIOD steps were counted, with the map ahead of it and an empty shadow
        duePackets("call 3;plain;stop;if 3;ret;sync 3;", "y;n;", new int[][] {{0, 0, 0, 16, 0}, {1, 1, 2, 6, 3},
                {0, 4, 3, 16, 3}, {2, 1, 1, 7, 3}, {4, 3, 0, 10, 6}});
        // off and on
        duePackets("plain;if 3;plain;plain;jump 0;from 1;to 1;", "y;n;y;", new int[][] {
            {0, 1, 0, 16, 1}, {1, 1, 1, 5, 2}, {3, 1, 0, 10, 2}, {0, 1, 0, 16, 5}, {1, 0, 1, 5, 6}, {3, 1, 0, 10, 6},
            {0, 1, 0, 16, 10}, {1, 1, 1, 5, 11}, {3, 1, 0, 10, 11}, {0, 1, 0, 16, 14}, {4, 1, 0, 10, 15}});
        // DEEP: the lowest goes, so that the outer return needs an address: 0 2 4 6 5 3 1
        String nest = "call 2;stop;call 4;ret;call 6;ret;ret;";
        duePackets(nest, "", new int[][] {{0, 0, 0, 16, 0}, {1, 3, 2, 6, 5}, {2, 1, 1, 7, 5}, {4, 7, 0, 10, 7}});
        duePackets(nest + "deep 1;", "", new int[][] {{0, 0, 0, 16, 0}, {1, 1, 1, 5, 4}, {2, 3, 1, 7, 4},
            {2, 1, 1, 7, 5}, {4, 7, 0, 10, 7}});
        duePackets(nest + "deep 3;", "", new int[][] {{0, 0, 0, 16, 0}, {1, 7, 3, 7, 7}, {4, 7, 0, 10, 7}});
        duePackets(nest + "deep 0;", "", new int[][] {{0, 0, 0, 16, 0}, {2, 5, 1, 7, 3}, {2, 3, 1, 7, 4},
            {2, 1, 1, 7, 5}, {4, 7, 0, 10, 7}});
    }

    private static void packetOverflow() {
        duePackets(full(), new int[][] {{0, 0, 0, 16, 0}, {1, 1, 1, 5, 0}, {1, 1, 1, 5, 1}, {1, 1, 1, 5, 2},
            {5, 0, 0, 4, 8}, {0, 0, 0, 16, 8}, {1, 1, 1, 5, 8}});
        TracePackets x = told("if 0;stop;from 0;to 0;bits 1;room 3;rate 9;", "y;y;y;y;y;y;n;");
        duePackets(x, new int[][] {{0, 0, 0, 16, 0}, {1, 1, 1, 5, 0}, {1, 1, 1, 5, 1}});
        due("dropped", 1, x.sent(0, 0, 4));
        due("fullest", 3, x.sent(0, 0, 5));
        due("gap", 5, x.sent(0, 0, 6));
        due("sum", 26, x.sent(0, 0, 1));
        due("ratio", 26, x.sent(0, 0, 2));
        due("ratio", 7, x.sent(0, 0, 3));
    }

    private static void dueDropped(String code, String drive, int dropped, int[][] packets) {
        TracePackets x = told(code, drive);
        duePackets(x, packets);
        due("dropped of '" + code + "'", dropped, x.sent(0, 0, 4));
    }

    private static void packetDrops() {
        // a GOTO
        dueDropped("via;stop;room 3;rate 9;", many("go 0;", 5) + "go 1;", 1, new int[][] {
            {0, 0, 0, 16, 0}, {2, 0, 1, 7, 0}, {2, 0, 1, 7, 1}});
        // a MAP ahead of a SYNC: then the SYNC is not put at all
        dueDropped("if 0;stop;bits 9;sync 2;room 3;rate 9;", many("y;", 7) + "n;", 1, new int[][] {
            {0, 0, 0, 16, 0}, {1, 3, 2, 6, 2}, {0, 0, 2, 16, 2}});
        // the END; the MAP ahead of it; an OFF
        dueDropped("via;via;stop;room 3;rate 9;", "go 1;go 2;", 1, new int[][] {
            {0, 0, 0, 16, 0}, {2, 1, 1, 7, 0}, {2, 2, 1, 7, 1}});
        dueDropped("via;via;if 2;stop;room 3;rate 9;", "go 1;go 2;y;n;", 1, new int[][] {
            {0, 0, 0, 16, 0}, {2, 1, 1, 7, 0}, {2, 2, 1, 7, 1}});
        dueDropped("via;via;jump 3;plain;stop;to 2;room 3;rate 9;", "go 1;go 2;", 1, new int[][] {
            {0, 0, 0, 16, 0}, {2, 1, 1, 7, 0}, {2, 2, 1, 7, 1}});
        // it sees again at a step that is not traced: OVER there, SYNC when there is something to trace
        dueDropped("via;via;via;plain;plain;plain;plain;plain;jump 0;to 2;room 3;rate 2;", "go 1;go 2;go 3;", 1,
                new int[][] {{0, 0, 0, 16, 0}, {2, 1, 1, 7, 0}, {2, 2, 1, 7, 1}, {2, 3, 1, 7, 2}, {5, 0, 0, 4, 8},
                    {0, 0, 0, 16, 9}, {4, 1, 0, 10, 10}});
    }

    // 16
    private static void sent() {
        TracePackets x = loop();
        int[] want = {4, 42, 14, 5, 0, 2, 0, 5, 0, 20, 1, 1, 1, 0, 1, 0};
        for (int what = 0; what < want.length; what++) {
            due("sent " + what, want[what], x.sent(0, 0, what));
        }
        TracePackets y = full();
        // 11 steps, 56 bits; steps 3 to 7 are not rebuilt
        int[] overflown = {7, 56, 56, 11, 2, 3, 5};
        for (int what = 0; what < overflown.length; what++) {
            due("sent of what overflows " + what, overflown[what], y.sent(0, 0, what));
        }
        int[] kinds = {2, 4, 0, 0, 0, 1};
        for (int i = 0; i < 6; i++) {
            due("of kind " + i, kinds[i], y.sent(0, 0, 10 + i));
        }
        // of 0: 1 rebuilt; of 1, 2, 3: 1, 2, 3; of 4: 3 + 1; of 5, 6: 3
        due("worst, the least of two", 0, y.sent(0, 0, 8));
        for (int what : new int[] {-1, 16, 100, Integer.MIN_VALUE, Integer.MAX_VALUE}) {
            due("sent " + what, -2, x.sent(0, 0, what));
        }
        due("no code", -2, x.sent(1, 0, 0));
        due("no drive", -2, x.sent(0, 1, 0));
        TracePackets nothing = told("plain;stop;from 2;", "");
        int[] none = {0, 0, NONE, NONE, 0, 0, 0, 1, NONE, 0, 0, 0, 0, 0, 0, 0};
        for (int what = 0; what < none.length; what++) {
            due("sent of nothing traced " + what, none[what], nothing.sent(0, 0, what));
        }
        // BITS 1: 1 bit to a MAP; least: 4 bits in one MAP, the least BITS of 4 to 9
        TracePackets z = told("if 0;stop;bits 1;", "y;y;y;n;");
        due("sum with BITS 1", 16 + 4 * 5 + 10, z.sent(0, 0, 1));
        due("least", 4, z.sent(0, 0, 7));
        due("least", 9, told("if 0;stop;", many("y;", 8) + "n;").sent(0, 0, 7));
        // a SYNC in the middle tells the two steps ahead of it, too, but the first one does not
        TracePackets w = told(many("plain;", 9) + "stop;sync 2;", "");
        due("packets", 6, w.sent(0, 0, 0));
        due("worst, the least of several", 1, w.sent(0, 0, 8));
        dueWorstByTryingAll("plain;plain;if 4;stop;plain;plain;plain;plain;stop;sync 3;", "y;");
        dueWorstByTryingAll(FULL, FULL_DRIVE);
        dueWorstByTryingAll(LOOP + "sync 4;bits 2;", "n;n;y;go 5;");
        // two bits in one MAP against two GOTO of one digit
        due("saved", 2 * 7 - 6, told("call 3;call 3;stop;ret;", "").sent(0, 0, 9));
        due("saved, DEEP 0", 0, told("call 3;call 3;stop;ret;deep 0;", "").sent(0, 0, 9));
    }

    private static void dueWorstByTryingAll(String code, String drive) {
        TracePackets x = told(code, drive);
        int worst = NONE;
        int fewest = Integer.MAX_VALUE;
        for (int k = 0; k < x.sent(0, 0, 0); k++) {
            Checks.tellAt(x, LOSS, k == 0 ? NONE : 0, "lose " + k + ";");
            if (x.rebuilt(0, 0, 0, 0) < fewest) {
                fewest = x.rebuilt(0, 0, 0, 0);
                worst = k;
            }
        }
        due("worst of '" + code + "'", worst, x.sent(0, 0, 8));
    }

    // 17
    private static void rebuilt() {
        TracePackets x = loop();
        Checks.tell(x, LOSS, "lose 3;lose 1;lose 3;");
        Checks.tell(x, LOSS, "lose 2;lose 99;");
        due("all", 15, x.rebuilt(0, 0, NONE, 0));
        due("one piece", 1, x.rebuilt(0, 0, NONE, 1));
        due("no cost", 0, x.rebuilt(0, 0, NONE, 2));
        due("piece 0", 15, x.rebuilt(0, 0, NONE, 100));
        due("piece 1", NONE, x.rebuilt(0, 0, NONE, 101));
        for (int k = 0; k < 15; k++) {
            due("rebuilt " + k, LOOP_STEPS[k], x.rebuilt(0, 0, NONE, 1000 + k));
        }
        due("not so many", NONE, x.rebuilt(0, 0, NONE, 1015));
        due("without the map and the end", 0, x.rebuilt(0, 0, 0, 0));
        due("a piece of no steps", 1, x.rebuilt(0, 0, 0, 1));
        due("a piece of no steps", 0, x.rebuilt(0, 0, 0, 100));
        due("the cost", 15, x.rebuilt(0, 0, 0, 2));
        due("none", NONE, x.rebuilt(0, 0, 0, 1000));
        due("without the goto", 13, x.rebuilt(0, 0, 1, 0));
        due("the cost", 2, x.rebuilt(0, 0, 1, 2));
        due("the last one", 0, x.rebuilt(0, 0, 1, 1012));
        due("no more", NONE, x.rebuilt(0, 0, 1, 1013));
        for (int what : new int[] {-1, 3, 99, 999, Integer.MIN_VALUE, Integer.MAX_VALUE}) {
            due("rebuilt " + what, NONE, x.rebuilt(0, 0, 1, what));
        }
        due("no loss 2", NONE, x.rebuilt(0, 0, 2, 0));
        due("no loss -2", NONE, x.rebuilt(0, 0, -2, 0));
        due("no code", NONE, x.rebuilt(1, 0, NONE, 0));
        due("no drive", NONE, x.rebuilt(0, 1, NONE, 0));
        Checks.tellAt(x, LOSS, 0, "");
        due("an empty loss", 15, x.rebuilt(0, 0, 0, 0));
        Checks.tellAt(x, LOSS, 0, "lose 0;");
        due("without the sync no piece", 0, x.rebuilt(0, 0, 0, 1));
        due("without the sync nothing", 0, x.rebuilt(0, 0, 0, 0));
        Checks.tellAt(x, LOSS, 0, "lose 3;");
        due("the goto tells the via", 14, x.rebuilt(0, 0, 0, 0));
    }

    private static void rebuiltPieces() {
        TracePackets x = full();
        due("rebuilt", 4, x.rebuilt(0, 0, NONE, 0));
        due("pieces", 2, x.rebuilt(0, 0, NONE, 1));
        due("the first", 3, x.rebuilt(0, 0, NONE, 100));
        due("the second", 1, x.rebuilt(0, 0, NONE, 101));
        Checks.tell(x, LOSS, "lose 4;");
        due("without OVER", 4, x.rebuilt(0, 0, 0, 0));
        due("without OVER", 2, x.rebuilt(0, 0, 0, 1));
        Checks.tell(x, LOSS, "lose 2;");
        due("without a MAP", 2, x.rebuilt(0, 0, 1, 0));
        due("without a MAP", 1, x.rebuilt(0, 0, 1, 100));
        due("cost", 2, x.rebuilt(0, 0, 1, 2));
        // a GOTO tells all that leads to the via, and the via
        TracePackets z = told("plain;plain;via;stop;", "go 3;");
        Checks.tell(z, LOSS, "lose 2;");
        due("up to the via", 3, z.rebuilt(0, 0, 0, 0));
        for (int k = 0; k < 3; k++) {
            due("up to the via", k, z.rebuilt(0, 0, 0, 1000 + k));
        }
        // SYNCs of period 2: 0 1 | 2 3 | 4: a SYNC that is lost loses what is ahead of it and behind it
        TracePackets y = told("plain;plain;plain;plain;stop;sync 2;", "");
        duePackets(y, new int[][] {{0, 0, 0, 16, 0}, {0, 2, 2, 16, 2}, {0, 4, 2, 16, 4}, {4, 1, 0, 10, 5}});
        Checks.tell(y, LOSS, "lose 1;");
        due("rebuilt", 1, y.rebuilt(0, 0, 0, 0));
        due("the step at 4", 4, y.rebuilt(0, 0, 0, 1000));
        due("pieces", 2, y.rebuilt(0, 0, 0, 1));
        due("the first, of no steps", 0, y.rebuilt(0, 0, 0, 100));
        due("the second", 1, y.rebuilt(0, 0, 0, 101));
        Checks.tell(y, LOSS, "lose 0;");
        due("from the second on", 3, y.rebuilt(0, 0, 1, 0));
        due("one piece", 1, y.rebuilt(0, 0, 1, 1));
        due("its first step", 2, y.rebuilt(0, 0, 1, 1000));
        due("all in one piece", 1, y.rebuilt(0, 0, NONE, 1));
        due("all", 5, y.rebuilt(0, 0, NONE, 0));
    }

    // 18
    private static void missed() {
        TracePackets x = loop();
        Checks.tell(x, LOSS, "lose 1;");
        Checks.tell(x, LOSS, "lose 2;lose 99;");
        due("none missed", 0, x.missed(0, 0, NONE, NONE));
        due("none missed", NONE, x.missed(0, 0, NONE, 0));
        due("all missed", 8, x.missed(0, 0, 0, NONE));
        for (int k = 0; k < 8; k++) {
            due("all missed, rising", k, x.missed(0, 0, 0, k));
        }
        due("two missed", 2, x.missed(0, 0, 1, NONE));
        due("the via", 4, x.missed(0, 0, 1, 0));
        due("the stop", 5, x.missed(0, 0, 1, 1));
        due("not so many", NONE, x.missed(0, 0, 1, 2));
        due("k -2", NONE, x.missed(0, 0, 1, -2));
        due("no loss", NONE, x.missed(0, 0, 2, NONE));
        due("loss -2", NONE, x.missed(0, 0, -2, NONE));
        due("no code", NONE, x.missed(1, 0, 0, NONE));
        due("no drive", NONE, x.missed(0, 1, 0, NONE));
        TracePackets y = full();
        due("the stop is missed without a loss", 1, y.missed(0, 0, NONE, NONE));
        due("the stop is missed without a loss", 1, y.missed(0, 0, NONE, 0));
        TracePackets w = told("plain;plain;stop;sync 2;", "");
        Checks.tell(w, LOSS, "lose 2;");
        due("what the last packet tells", 1, w.missed(0, 0, 0, NONE));
        due("what the last packet tells", 2, w.missed(0, 0, 0, 0));
        Checks.tell(w, LOSS, "lose 0;");
        due("what the first packets tell", 2, w.missed(0, 0, 1, NONE));
        due("what the first packets tell", 0, w.missed(0, 0, 1, 0));
        TracePackets z = told(FULL + "to 0;", FULL_DRIVE);
        due("what is not traced is not missed", 0, z.missed(0, 0, NONE, NONE));
    }

    // 19
    private static void visits() {
        TracePackets x = loop();
        int[] visits = {3, 2, 2, 2, 1, 1, 2, 2};
        for (int a = 0; a < 8; a++) {
            due("visits of " + a, visits[a], x.visits(0, 0, a));
        }
        due("no instruction", NONE, x.visits(0, 0, 8));
        due("no instruction", NONE, x.visits(0, 0, 39));
        due("no instruction", NONE, x.visits(0, 0, 40));
        due("no instruction", NONE, x.visits(0, 0, -1));
        due("no code", NONE, x.visits(1, 0, 0));
        due("no drive", NONE, x.visits(0, 1, 0));
        Checks.tell(x, DRIVE, "");
        due("not visited", 0, x.visits(0, 1, 1));
        due("untraced steps count", 200, told("jump 0;from 1;", "").visits(0, 0, 0));
    }

    // 20
    private static void hot() {
        TracePackets x = loop();
        int[] hot = {0, 1, 2, 3, 6, 7, 4, 5};
        for (int k = 0; k < 8; k++) {
            due("hot " + k, hot[k], x.hot(0, 0, k));
        }
        for (int k : new int[] {-1, -2, 8, 40, Integer.MIN_VALUE, Integer.MAX_VALUE}) {
            due("hot " + k, NONE, x.hot(0, 0, k));
        }
        due("no code", NONE, x.hot(1, 0, 0));
        due("no drive", NONE, x.hot(0, 1, 0));
        TracePackets y = told("jump 2;stop;if 2;jump 1;", "y;y;n;");
        int[] later = {2, 0, 1, 3};
        for (int k = 0; k < 4; k++) {
            due("hot " + k, later[k], y.hot(0, 0, k));
        }
        TracePackets z = told("jump 2;stop;if 2;jump 1;", "y;");
        due("what was not visited is not hot", NONE, z.hot(0, 0, 2));
        TracePackets all = told(many("plain;", 40), "");
        due("the 40th", 39, all.hot(0, 0, 39));
    }

    private static void dueDead(String code, int... dead) {
        TracePackets x = new TracePackets();
        Checks.tell(x, CODE, code);
        due("dead of '" + code + "'", dead.length, x.dead(0, NONE));
        for (int k = 0; k < dead.length; k++) {
            due("dead " + k + " of '" + code + "'", dead[k], x.dead(0, k));
        }
        due("not so many", NONE, x.dead(0, dead.length));
        due("k -2", NONE, x.dead(0, -2));
    }

    // 21
    private static void dead() {
        dueDead("");
        dueDead("plain;plain;");
        dueDead("stop;plain;plain;", 1, 2);
        dueDead("jump 2;plain;stop;", 1);
        dueDead("if 2;jump 3;stop;stop;plain;", 4);
        dueDead("via;stop;plain;stop;");
        dueDead("jump 2;via;stop;", 1);
        // a call that never comes back; one that does, by any ret that a way leads to
        dueDead("call 2;plain;stop;", 1);
        dueDead("call 2;stop;ret;");
        dueDead("ret;call 0;plain;", 1, 2);
        dueDead("call 3;jump 1;plain;if 5;ret;call 7;plain;stop;", 2);
        // the ret is reached after the call, and what is behind the call calls again
        dueDead("jump 3;ret;plain;call 5;call 1;jump 1;stop;", 2, 6);
        // from the highest down: each round reaches one more
        StringBuilder down = new StringBuilder("jump 39;stop;");
        for (int a = 2; a < 40; a++) {
            down.append("jump ").append(a - 1).append(';');
        }
        dueDead(down.toString());
        TracePackets x = new TracePackets();
        due("no code", NONE, x.dead(0, NONE));
        due("no code -1", NONE, x.dead(-1, NONE));
    }

    // 22
    private static void fact() {
        TracePackets x = new TracePackets();
        Checks.tell(x, LOG, "saw 39 0;saw 4 99;saw 39 7;");
        due("facts", 3, x.fact(0, NONE, 0));
        int[][] facts = {{39, 0}, {4, 99}, {39, 7}};
        for (int k = 0; k < 3; k++) {
            due("address " + k, facts[k][0], x.fact(0, k, 0));
            due("how often " + k, facts[k][1], x.fact(0, k, 1));
            due("what 2", -2, x.fact(0, k, 2));
            due("what -1", -2, x.fact(0, k, -1));
        }
        due("how many, what 1", -2, x.fact(0, NONE, 1));
        due("how many, what -1", -2, x.fact(0, NONE, -1));
        due("no fact 3", -2, x.fact(0, 3, 0));
        due("no fact -2", -2, x.fact(0, -2, 0));
        due("no log", -2, x.fact(1, NONE, 0));
        due("no log -1", -2, x.fact(-1, 0, 0));
    }

    // 23
    private static void fits() {
        TracePackets x = loop();
        Checks.tell(x, LOG, "saw 4 0;saw 0 3;");
        due("one fits", 1, x.fits(0, 0, 0, 0));
        due("the goto", 2, x.fits(0, 0, 0, 10));
        due("not so many", -2, x.fits(0, 0, 0, 11));
        due("ask anything", 0, x.fits(0, 0, 0, 1));
        Checks.tell(x, LOG, "");
        due("all fit", 5, x.fits(0, 0, 1, 0));
        for (int k = 0; k < 5; k++) {
            due("fit " + k, k - 1, x.fits(0, 0, 1, 10 + k));
        }
        // rebuilt: none 15, of 0 and 1 nothing, of 2 13, of 3 14: at 0 groups 3, 2; at 4 2, 3; at 5 1, 4
        due("ask, the least of several", 0, x.fits(0, 0, 1, 1));
        Checks.tellAt(x, LOG, 1, "saw 0 3;");
        due("three fit", 3, x.fits(0, 0, 1, 0));
        due("none fits ahead of all", NONE, x.fits(0, 0, 1, 10));
        due("then the goto", 2, x.fits(0, 0, 1, 11));
        due("then the end", 3, x.fits(0, 0, 1, 12));
        // 4 is rebuilt once, never, once; 5 once, never, never: groups of 2 each
        due("ask", 4, x.fits(0, 0, 1, 1));
        Checks.tellAt(x, LOG, 1, "saw 0 3;saw 0 4;");
        due("nothing fits both", 0, x.fits(0, 0, 1, 0));
        due("ask nothing", NONE, x.fits(0, 0, 1, 1));
        due("none of them", -2, x.fits(0, 0, 1, 10));
        Checks.tellAt(x, LOG, 1, "saw 39 0;saw 5 1;");
        due("what has no instruction is rebuilt never", 1, x.fits(0, 0, 1, 0));
        due("none is lost", NONE, x.fits(0, 0, 1, 10));
        for (int what : new int[] {-1, 2, 9, Integer.MIN_VALUE, Integer.MAX_VALUE}) {
            due("fits " + what, -2, x.fits(0, 0, 1, what));
        }
        due("no code", -2, x.fits(1, 0, 0, 0));
        due("no drive", -2, x.fits(0, 1, 0, 0));
        due("no log", -2, x.fits(0, 0, 2, 0));
        due("no log -1", -2, x.fits(0, 0, -1, 0));
        Checks.tell(x, CODE, "");
        Checks.tellAt(x, LOG, 1, "");
        due("of no packets none fits", 1, x.fits(1, 0, 1, 0));
        due("of no packets none fits", NONE, x.fits(1, 0, 1, 10));
        due("no instructions to ask of", NONE, x.fits(1, 0, 1, 1));
    }

    // 24
    private static void drawn() {
        TracePackets x = new TracePackets();
        Checks.tell(x, CODE, "if 0;stop;");
        // seed 1: x becomes 1103527590, shifted 16838: 0, no
        due("steps", 2, x.drawn(0, 1, 1, 0));
        due("ends by the stop", 1, x.drawn(0, 1, 1, 1));
        due("edges", 1, x.drawn(0, 1, 1, 2));
        due("loops", 0, x.drawn(0, 1, 1, 3));
        due("deepest", 0, x.drawn(0, 1, 1, 4));
        due("used", 1, x.drawn(0, 1, 1, 5));
        due("the last step", 1, x.drawn(0, 1, 1, 10));
        due("no choice at all", 1, x.drawn(0, 1, 0, 0));
        due("no choice at all", 2, x.drawn(0, 1, 0, 1));
        due("no choice at all", 0, x.drawn(0, 1, 0, 5));
        for (int what : new int[] {-1, 6, 7, 9, 11, Integer.MIN_VALUE, Integer.MAX_VALUE}) {
            due("drawn " + what, NONE, x.drawn(0, 1, 1, what));
        }
        for (int n : new int[] {-1, 61, Integer.MIN_VALUE, Integer.MAX_VALUE}) {
            due("n " + n, NONE, x.drawn(0, 1, n, 0));
        }
        due("no code", NONE, x.drawn(1, 1, 1, 0));
        due("no code -1", NONE, x.drawn(-1, 1, 1, 0));
        Checks.tell(x, CODE, "via;via;via;via;via;via;via;");
        // seed 5: 1222621274 (shifted 18655, by 7: 0), then 60 of them at most
        due("60 choices", 61, x.drawn(1, 5, 60, 0));
        due("60 choices", 2, x.drawn(1, 5, 60, 1));
        due("60 choices", 60, x.drawn(1, 5, 60, 5));
        int seed = -123456789;
        int address = 0;
        for (int n = 0; n <= 60; n++) {
            due("where the draws lead", address, x.drawn(1, -123456789, n, 10));
            seed = seed * 1103515245 + 12345;
            address = (seed >>> 16) % 7;
        }
        Checks.tellAt(x, CODE, 1, "");
        due("no steps", 0, x.drawn(1, 5, 60, 0));
        due("no steps", 3, x.drawn(1, 5, 60, 1));
        due("no last step", NONE, x.drawn(1, 5, 60, 10));
        due("count of drives", 0, x.count(DRIVE));
    }

    // 25
    private static void count() {
        TracePackets x = new TracePackets();
        for (int sort = 0; sort < 4; sort++) {
            for (int size = 0; size < 3; size++) {
                due("count(" + sort + ")", size, x.count(sort));
                x.text(sort, NONE);
            }
            due("count(" + sort + ")", 2, x.count(sort));
            x.text(sort, 0);
            due("count(" + sort + ")", 2, x.count(sort));
        }
        for (int sort : new int[] {-1, 4, Integer.MIN_VALUE, Integer.MAX_VALUE}) {
            due("count(" + sort + ")", -2, x.count(sort));
        }
    }

    // 26, 27
    private static void images() {
        TracePackets x = loop();
        Checks.tell(x, LOSS, "lose 4;");
        Checks.tell(x, LOG, "saw 4 7;");
        Checks.tell(x, DRIVE, "y;!");
        Checks.tape(x, "y;y;");
        Checks.due("image 3", false, x.image(3));
        Checks.due("image -1", false, x.image(-1));
        Checks.due("image 0", true, x.image(0));
        Checks.due("again 1", false, x.again(1));
        Checks.due("again 3", false, x.again(3));
        Checks.due("again -1", false, x.again(-1));
        due("a further drive", 1, x.text(DRIVE, NONE));
        Checks.tellAt(x, CODE, 0, "stop;bits 3;");
        Checks.tell(x, CODE, "plain;");
        Checks.tellAt(x, LOSS, 0, "lose 5;lose 6;");
        Checks.tellAt(x, LOG, 0, "saw 3 3;saw 2 2;");
        Checks.tape(x, "zzzzzzzz");
        Checks.due("image 2", true, x.image(2));
        Checks.due("again 0", true, x.again(0));
        due("the fault", 1, x.fault(0));
        due("its place", 2, x.fault(1));
        due("one code", 1, x.count(CODE));
        due("one drive", 1, x.count(DRIVE));
        due("instructions", 8, x.code(0, 0));
        due("a target", 4, x.code(0, 200));
        due("bits", 6, x.code(0, 1));
        due("the loss", 4, x.loss(0, 0));
        due("the loss", 1, x.loss(0, NONE));
        due("the log", 7, x.fact(0, 0, 1));
        due("the log", 1, x.fact(0, NONE, 0));
        due("the tape's length", NONE, x.end(5));
        due("the tape", 1, x.text(DRIVE, NONE));
        due("two choices", 2, x.choice(1, NONE));
        Checks.due("again 0, once more", true, x.again(0));
        due("one drive", 1, x.count(DRIVE));
        Checks.due("again 2", true, x.again(2));
        due("two codes", 2, x.count(CODE));
        due("bits", 3, x.code(0, 1));
        due("two losses' packets", 2, x.loss(0, NONE));
        due("the tape", 8, x.end(8));
        Checks.due("image 0 anew", true, x.image(0));
        Checks.tellAt(x, CODE, 0, "");
        Checks.due("again 0", true, x.again(0));
        due("as it was", 1, x.code(0, 0));
    }
}
