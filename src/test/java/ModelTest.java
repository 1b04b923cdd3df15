import java.util.Random;

/** Random texts and all calls on them, held against the Model. The seeds are fixed: each run is the same. */
public final class ModelTest {
    private static final String[] KINDS = {"plain", "if", "jump", "call", "ret", "via", "stop"};
    private static final int[] EXTREMES = {Integer.MIN_VALUE, -1000, -3, -2, Integer.MAX_VALUE, 1 << 30};

    private final Random random;
    private final TracePackets mine = new TracePackets();
    private final Model model = new Model();

    private ModelTest(long seed) {
        random = new Random(seed);
    }

    public static void main(String[] args) {
        int rounds = Integer.getInteger("rounds", 150);
        for (int seed = 0; seed < rounds; seed++) {
            ModelTest test = new ModelTest(seed);
            for (int i = 0; i < 4; i++) {
                test.change();
                test.compareAll("seed " + seed + " round " + i + " ");
            }
        }
        Checks.close("ModelTest");
    }

    private int below(int n) {
        return random.nextInt(n);
    }

    private String blank() {
        return switch (below(12)) {
            case 0 -> "  ";
            case 1 -> "\n";
            case 2 -> "\n ";
            default -> "";
        };
    }

    private String number(int n) {
        return (n < 10 && below(10) == 0 ? "0" : "") + n;
    }

    private String line(String word, int... numbers) {
        StringBuilder line = new StringBuilder(blank()).append(word);
        String between = below(8) == 0 && numbers.length == 1 ? "" : " ";
        for (int n : numbers) {
            line.append(between).append(blank()).append(number(n));
        }
        return line.append(blank()).append(';').toString();
    }

    private String rule() {
        boolean wrong = below(60) == 0;
        return switch (below(9)) {
            case 0 -> line("mode", wrong ? 2 : below(2));
            case 1 -> line("bits", wrong ? 0 : 1 + below(9));
            case 2 -> line("deep", wrong ? 5 : below(5));
            case 3 -> line("sync", wrong ? 1 : 2 + below(below(2) == 0 ? 8 : 98));
            case 4 -> line("from", wrong ? 40 : below(4));
            case 5 -> line("to", wrong ? 40 : 39 - below(36));
            case 6 -> line("only", wrong ? 3 : below(3));
            case 7 -> line("room", wrong ? 2 : 3 + below(7));
            default -> line("rate", wrong ? 0 : 1 + below(below(2) == 0 ? 2 : 9));
        };
    }

    private String codeText() {
        int size = below(12) == 0 ? below(42) : 2 + below(14);
        int[] weights = new int[7];
        for (int i = 0; i < 7; i++) {
            weights[i] = below(i == 6 ? 2 : 6);
        }
        StringBuilder text = new StringBuilder();
        for (int a = 0; a < size; a++) {
            if (below(4) == 0) {
                text.append(rule());
            }
            int kind = below(7);
            for (int tries = 0; tries < 5 && below(6) >= weights[kind]; tries++) {
                kind = below(7);
            }
            int target = below(150) == 0 ? below(45) : below(Math.min(size, 40));
            text.append(kind >= 1 && kind <= 3 ? line(KINDS[kind], target) : line(KINDS[kind]));
        }
        return text.toString();
    }

    /** Choices that mostly are of the sort that the newest code needs. */
    private String driveText() {
        int size = below(8) == 0 ? below(62) : below(61);
        int code = model.count(0) - 1;
        int all = Math.max(1, model.code(code, 0));
        StringBuilder text = new StringBuilder();
        java.util.List<Integer> told = new java.util.ArrayList<>();
        while (told.size() < size) {
            int choice = neededChoice(code, told, all);
            told.add(choice);
            text.append(choice == 101 ? line("y") : choice == 100 ? line("n") : line("go", choice));
        }
        return text.toString();
    }

    private int neededChoice(int code, java.util.List<Integer> told, int all) {
        boolean forVia = below(2) == 0;
        Model scratch = new Model();
        if (code >= 0) {
            Checks.due("(the scratch model)", 0, tellModel(scratch, 0, newestCode));
            StringBuilder drive = new StringBuilder();
            told.forEach(c -> drive.append(c == 101 ? "y;" : c == 100 ? "n;" : "go " + c + ";"));
            tellModel(scratch, 1, drive.toString());
            int steps = scratch.run(0, 0, 0);
            int last = scratch.step(0, 0, steps - 1, false);
            forVia = scratch.code(0, 100 + Math.max(last, 0)) == 5;
        }
        if (below(60) == 0) {
            forVia = !forVia;
        }
        return forVia ? (below(300) == 0 ? 40 : below(20) == 0 ? below(40) : below(Math.min(all, 40))) : 100 + below(2);
    }

    private String newestCode = "";

    private static int tellModel(Model model, int sort, String text) {
        model.end(0);
        for (int[] row : Checks.rows(text)) {
            model.feed(row[0], row[1], row[2], row[3], row[4]);
        }
        model.end(text.length());
        return model.text(sort, Model.NONE);
    }

    private String lossText() {
        StringBuilder text = new StringBuilder();
        for (int i = below(6) == 0 ? below(14) : below(5); i > 0; i--) {
            text.append(line("lose", below(5) == 0 ? below(100) : below(12)));
        }
        return text.toString();
    }

    /** Facts that mostly hold of what is rebuilt without one packet. */
    private String logText() {
        StringBuilder text = new StringBuilder();
        Model scratch = new Model();
        if (!newestCode.isEmpty() && below(4) != 0) {
            tellModel(scratch, 0, newestCode);
            tellModel(scratch, 1, newestDrive);
            tellModel(scratch, 2, below(3) == 0 ? "" : "lose " + below(20) + ";");
        }
        for (int i = below(9) == 0 ? below(10) : below(4); i > 0; i--) {
            int address = below(60) == 0 ? 40 : below(8) == 0 ? below(40) : below(9);
            int times = 0;
            for (int k = 0; scratch.rebuilt(0, 0, 0, 1000 + k) != Model.NONE; k++) {
                times += scratch.rebuilt(0, 0, 0, 1000 + k) == address ? 1 : 0;
            }
            text.append(line("saw", address, below(20) == 0 ? below(100) : Math.min(times, 99)));
        }
        return text.toString();
    }

    private String newestDrive = "";

    private String spoil(String text) {
        if (text.isEmpty() || below(7) != 0) {
            return text;
        }
        int at = below(text.length());
        String signs = "abyn;; \n0123456789goif\t!\u00e9\u0000A";
        char sign = signs.charAt(below(signs.length()));
        return switch (below(3)) {
            case 0 -> text.substring(0, at);
            case 1 -> text.substring(0, at) + sign + text.substring(at);
            default -> text.substring(0, at) + sign + text.substring(at + 1);
        };
    }

    private void tellBoth(int sort, int at, String whole) {
        String text = whole.length() > 600 ? whole.substring(0, 600) : whole;
        Checks.due("end(0)", model.end(0), mine.end(0));
        for (int[] r : Checks.rows(text)) {
            Checks.due("feed", model.feed(r[0], r[1], r[2], r[3], r[4]), mine.feed(r[0], r[1], r[2], r[3], r[4]));
        }
        Checks.due("end", model.end(text.length()), mine.end(text.length()));
        int want = model.text(sort, at);
        Checks.due("text(" + sort + ", " + at + ") of '" + text + "'", want, mine.text(sort, at));
        for (int what = -1; what < 3; what++) {
            Checks.due("fault(" + what + ") of '" + text + "'", model.fault(what), mine.fault(what));
        }
        if (want >= 0 && sort == 0) {
            newestCode = text;
        }
        if (want >= 0 && sort == 1) {
            newestDrive = text;
        }
    }

    private void change() {
        for (int sort = 0; sort < 4; sort++) {
            int texts = 1 + below(3);
            for (int i = 0; i < texts; i++) {
                String text = sort == 0 ? codeText() : sort == 1 ? driveText() : sort == 2 ? lossText() : logText();
                tellBoth(sort, model.count(sort) == 2 ? below(9) == 0 ? below(4) - 1 : below(2) : Model.NONE,
                        spoil(text));
            }
        }
        if (below(6) == 0) {
            tellBoth(below(8) - 2, below(5) - 2, below(2) == 0 ? "y;" : codeText());
        }
        int k = below(5) - 1;
        if (below(3) == 0) {
            Checks.due("image(" + k + ")", model.image(k), mine.image(k));
        } else if (below(3) == 0) {
            Checks.due("again(" + k + ")", model.again(k), mine.again(k));
        }
    }

    private int extremeOr(int often, int ordinary) {
        return below(often) == 0 ? EXTREMES[below(EXTREMES.length)] : ordinary;
    }

    private void compareAll(String where) {
        for (int sort = -1; sort <= 4; sort++) {
            Checks.due(where + "count(" + sort + ")", model.count(sort), mine.count(sort));
        }
        for (int n = -1; n <= 2; n++) {
            compareTold(where, n);
        }
        for (int code = -1; code <= 2; code++) {
            for (int drive = -1; drive <= 2; drive++) {
                compareRuns(where, code, drive);
                compareSent(where, code, drive);
                if (code >= 0 && drive >= 0 && code < 2 && drive < 2 || below(4) == 0) {
                    compareRebuilt(where, code, drive);
                }
            }
        }
    }

    private void compareTold(String where, int n) {
        for (int what = -1; what < 402; what++) {
            int w = extremeOr(100, what);
            Checks.due(where + "code(" + n + ", " + w + ")", model.code(n, w), mine.code(n, w));
        }
        for (int k = -2; k < 63; k++) {
            Checks.due(where + "choice(" + n + ", " + k + ")", model.choice(n, k), mine.choice(n, k));
            Checks.due(where + "head(" + n + ", " + k + ")", model.head(n, k), mine.head(n, k));
            Checks.due(where + "dead(" + n + ", " + k + ")", model.dead(n, k), mine.dead(n, k));
        }
        for (int k = -2; k < 14; k++) {
            int l = extremeOr(50, k);
            Checks.due(where + "loss(" + n + ", " + l + ")", model.loss(n, l), mine.loss(n, l));
            for (int what = -1; what < 3; what++) {
                Checks.due(where + "fact(" + n + ", " + l + ", " + what + ")", model.fact(n, l, what),
                        mine.fact(n, l, what));
            }
        }
        for (int i = 0; i < 12; i++) {
            int seed = random.nextInt();
            int most = extremeOr(30, below(64) - 1);
            int what = below(14) - 1;
            Checks.due(where + "drawn(" + n + ", " + seed + ", " + most + ", " + what + ")",
                    model.drawn(n, seed, most, what), mine.drawn(n, seed, most, what));
        }
    }

    private void compareRuns(String where, int code, int drive) {
        String run = where + "(" + code + ", " + drive + ", ";
        for (int what = -1; what < 10; what++) {
            Checks.due(run + what + ") run", model.run(code, drive, what), mine.run(code, drive, what));
        }
        int steps = Math.max(0, model.run(code, drive, 0));
        for (int k = -1; k < steps + 2; k += 1 + below(3)) {
            int s = extremeOr(100, k);
            boolean traced = below(2) == 0;
            int i = below(6) - 2;
            Checks.due(run + s + ") step", model.step(code, drive, s, traced), mine.step(code, drive, s, traced));
            Checks.due(run + s + ", " + i + ") open", model.open(code, drive, s, i), mine.open(code, drive, s, i));
        }
        for (int a = -1; a < 42; a += 1 + below(3)) {
            int address = extremeOr(100, a);
            Checks.due(run + address + ") visits", model.visits(code, drive, address),
                    mine.visits(code, drive, address));
            Checks.due(run + address + ") hot", model.hot(code, drive, address), mine.hot(code, drive, address));
        }
        Checks.due(run + ") block", model.block(code, drive), mine.block(code, drive));
        for (int other = -1; other <= 2; other++) {
            Checks.due(run + other + ") apart", model.apart(code, drive, other), mine.apart(code, drive, other));
        }
    }

    private void compareSent(String where, int code, int drive) {
        String run = where + "(" + code + ", " + drive + ", ";
        for (int what = -1; what < 18; what++) {
            int w = extremeOr(200, what);
            Checks.due(run + w + ") sent", model.sent(code, drive, w), mine.sent(code, drive, w));
        }
        int packets = Math.max(0, model.sent(code, drive, 0));
        for (int k = -1; k < packets + 2; k++) {
            for (int what = -1; what < 6; what++) {
                Checks.due(run + k + ", " + what + ") packet", model.packet(code, drive, k, what),
                        mine.packet(code, drive, k, what));
            }
        }
    }

    private void compareRebuilt(String where, int code, int drive) {
        for (int loss = -2; loss <= 2; loss++) {
            String run = where + "(" + code + ", " + drive + ", " + loss + ", ";
            for (int what = -1; what < 4; what++) {
                Checks.due(run + what + ") rebuilt", model.rebuilt(code, drive, loss, what),
                        mine.rebuilt(code, drive, loss, what));
            }
            int pieces = Math.max(0, model.rebuilt(code, drive, loss, 1));
            for (int p = 99; p < 102 + pieces; p++) {
                Checks.due(run + p + ") rebuilt", model.rebuilt(code, drive, loss, p),
                        mine.rebuilt(code, drive, loss, p));
            }
            int steps = Math.max(0, model.rebuilt(code, drive, loss, 0));
            for (int k = 999; k < 1002 + steps; k += 1 + below(4)) {
                int w = extremeOr(60, k);
                Checks.due(run + w + ") rebuilt", model.rebuilt(code, drive, loss, w),
                        mine.rebuilt(code, drive, loss, w));
            }
            for (int k = -2; k < 12; k++) {
                int m = extremeOr(60, k);
                Checks.due(run + m + ") missed", model.missed(code, drive, loss, m),
                        mine.missed(code, drive, loss, m));
            }
        }
        for (int log = -1; log <= 2; log++) {
            for (int what = -1; what < 13; what++) {
                int w = below(5) == 0 ? 10 + below(220) : extremeOr(60, what);
                Checks.due(where + "(" + code + ", " + drive + ", " + log + ", " + w + ") fits",
                        model.fits(code, drive, log, w), mine.fits(code, drive, log, w));
            }
        }
    }
}
