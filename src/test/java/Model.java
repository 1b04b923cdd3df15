import java.util.ArrayDeque;
import java.util.ArrayList;
import java.util.Arrays;
import java.util.Deque;
import java.util.HashMap;
import java.util.HashSet;
import java.util.List;
import java.util.Map;
import java.util.Set;
import java.util.TreeSet;
import java.util.function.IntUnaryOperator;
import java.util.regex.Matcher;
import java.util.regex.Pattern;

/**
 * The document written once more, with the whole Java library and without a care for speed: each loss is rebuilt by
 * going along the code anew, packets are objects, sets are sets. ModelTest holds the class against it.
 */
final class Model {
    static final int NONE = -1;

    record Instruction(String name, int target, int mode) { }

    static final class Code {
        final List<Instruction> instructions = new ArrayList<>();
        final Map<String, Integer> rules = new HashMap<>(Map.of("bits", 6, "deep", 2, "sync", 20, "from", 0, "to", 39,
                "only", 2, "room", 9, "rate", 1));

        int size() {
            return instructions.size();
        }

        Instruction at(int a) {
            return a >= 0 && a < size() ? instructions.get(a) : null;
        }

        String name(int a) {
            return at(a) == null ? "" : at(a).name();
        }

        int rule(String name) {
            return rules.get(name);
        }

        boolean traces(int a) {
            int only = rule("only");
            return a >= rule("from") && a <= rule("to") && (only == 2 || only == at(a).mode());
        }
    }

    record Packet(String kind, int value, int extra, int step) {
        int bits() {
            return switch (kind) {
                case "SYNC" -> 16;
                case "MAP" -> 4 + extra;
                case "GOTO" -> 4 + 3 * extra;
                case "OVER" -> 4;
                default -> 10;
            };
        }
    }

    static final List<String> NAMES = List.of("plain", "if", "jump", "call", "ret", "via", "stop");
    static final List<String> RULE_NAMES = List.of("bits", "deep", "sync", "from", "to", "only", "room", "rate");
    static final List<String> KINDS = List.of("SYNC", "MAP", "GOTO", "OFF", "END", "OVER");

    private List<Code> codes = new ArrayList<>();
    private List<List<Integer>> drives = new ArrayList<>();
    private List<TreeSet<Integer>> losses = new ArrayList<>();
    private List<List<int[]>> logs = new ArrayList<>();
    private String tape = "";
    private int fault = 0;
    private int place = NONE;
    private final Model[] images = new Model[3];

    // ---- texts

    int feed(int a, int b, int c, int d, int e) {
        if (tape.length() + 20 > 600) {
            return NONE;
        }
        StringBuilder all = new StringBuilder(tape);
        for (int number : new int[] {a, b, c, d, e}) {
            for (int shift = 24; shift >= 0; shift -= 8) {
                all.append((char) (number >>> shift & 0xff));
            }
        }
        tape = all.toString();
        return tape.length();
    }

    int end(int n) {
        if (n < 0 || n > tape.length()) {
            return NONE;
        }
        tape = tape.substring(0, n);
        return n;
    }

    int text(int sort, int at) {
        String text = tape;
        tape = "";
        fault = 0;
        place = NONE;
        if (sort < 0 || sort > 3) {
            return -2;
        }
        int size = count(sort);
        if (at == NONE ? size == 2 : at < 0 || at >= size) {
            return -2;
        }
        int slot = at == NONE ? size : at;
        Object made = read(text, sort);
        if (made == null) {
            return NONE;
        }
        if (at == NONE) {
            listOf(sort).add(made);
        } else {
            listOf(sort).set(slot, made);
        }
        return slot;
    }

    @SuppressWarnings("unchecked")
    private List<Object> listOf(int sort) {
        return (List<Object>) switch (sort) {
            case 0 -> codes;
            case 1 -> drives;
            case 2 -> losses;
            default -> logs;
        };
    }

    private static int numbersBehind(String word, int sort) {
        switch (sort) {
            case 0:
                if (List.of("plain", "ret", "via", "stop").contains(word)) {
                    return 0;
                }
                return RULE_NAMES.contains(word) || List.of("if", "jump", "call", "mode").contains(word) ? 1 : NONE;
            case 1:
                return word.equals("y") || word.equals("n") ? 0 : word.equals("go") ? 1 : NONE;
            case 2:
                return word.equals("lose") ? 1 : NONE;
            default:
                return word.equals("saw") ? 2 : NONE;
        }
    }

    private static boolean canBe(String word, int nth, int number) {
        if (nth == 1) {
            return true;
        }
        return switch (word) {
            case "mode" -> number <= 1;
            case "bits", "rate" -> number >= 1 && number <= 9;
            case "deep" -> number <= 4;
            case "sync" -> number >= 2;
            case "only" -> number <= 2;
            case "room" -> number >= 3 && number <= 9;
            case "lose" -> true;
            default -> number <= 39;
        };
    }

    private Object read(String text, int sort) {
        List<String> tokens = new ArrayList<>();
        List<Integer> places = new ArrayList<>();
        Matcher matcher = Pattern.compile("[a-z]+|[0-9]+|;|[\\n ]+|(?s:.)").matcher(text);
        while (matcher.find()) {
            if (!matcher.group().matches("[\\n ]+")) {
                tokens.add(matcher.group());
                places.add(matcher.start());
            }
        }
        tokens.add("");
        places.add(text.length());
        // the syntax alone, first
        int i = 0;
        while (!tokens.get(i).isEmpty()) {
            int numbers = numbersBehind(tokens.get(i), sort);
            if (numbers == NONE) {
                return fail(1, places.get(i));
            }
            i++;
            for (int n = 0; n < numbers; n++, i++) {
                if (!tokens.get(i).matches("[0-9]{1,2}")) {
                    return fail(1, places.get(i));
                }
            }
            if (!tokens.get(i).equals(";")) {
                return fail(1, places.get(i));
            }
            i++;
        }
        return build(tokens, places, sort);
    }

    private Object fail(int which, int where) {
        fault = which;
        place = where;
        return null;
    }

    private Object build(List<String> tokens, List<Integer> places, int sort) {
        Code code = new Code();
        List<Integer> drive = new ArrayList<>();
        TreeSet<Integer> loss = new TreeSet<>();
        List<int[]> log = new ArrayList<>();
        int items = 0;
        int mode = 0;
        int most = new int[] {40, 60, 12, 8}[sort];
        for (int i = 0; !tokens.get(i).isEmpty();) {
            String word = tokens.get(i);
            int numbers = numbersBehind(word, sort);
            int[] told = new int[2];
            boolean item = sort != 0 || NAMES.contains(word);
            if (item && ++items > most) {
                return fail(3, places.get(i));
            }
            for (int n = 0; n < numbers; n++) {
                told[n] = Integer.parseInt(tokens.get(i + 1 + n));
                if (!canBe(word, n, told[n])) {
                    return fail(2, places.get(i + 1 + n));
                }
            }
            i += numbers + 2;
            if (sort == 0 && item) {
                code.instructions.add(new Instruction(word, numbers == 1 ? told[0] : NONE, mode));
            } else if (sort == 0 && word.equals("mode")) {
                mode = told[0];
            } else if (sort == 0) {
                code.rules.put(word, told[0]);
            } else if (sort == 1) {
                drive.add(word.equals("y") ? 101 : word.equals("n") ? 100 : told[0]);
            } else if (sort == 2) {
                loss.add(told[0]);
            } else {
                log.add(told);
            }
        }
        for (Instruction each : code.instructions) {
            if (each.target() >= code.size()) {
                return fail(4, places.get(places.size() - 1));
            }
        }
        return sort == 0 ? code : sort == 1 ? drive : sort == 2 ? loss : log;
    }

    int fault(int what) {
        return what == 0 ? fault : what == 1 ? place : NONE;
    }

    private static <T> T get(List<T> list, int i) {
        return i >= 0 && i < list.size() ? list.get(i) : null;
    }

    int code(int code, int what) {
        Code told = get(codes, code);
        if (told == null) {
            return -2;
        }
        if (what == 0) {
            return told.size();
        }
        if (what >= 1 && what <= 8) {
            return told.rule(RULE_NAMES.get(what - 1));
        }
        for (int a = 0; a < told.size(); a++) {
            if (what == 100 + a) {
                return NAMES.indexOf(told.name(a));
            }
            if (what == 200 + a) {
                return told.at(a).target();
            }
            if (what == 300 + a) {
                return told.at(a).mode();
            }
        }
        return -2;
    }

    private static int sizeOrNth(List<Integer> list, int k, int none) {
        return k == NONE ? list.size() : k < 0 || k >= list.size() ? none : list.get(k);
    }

    int choice(int drive, int k) {
        List<Integer> told = get(drives, drive);
        return told == null ? -2 : sizeOrNth(told, k, -2);
    }

    int loss(int loss, int k) {
        TreeSet<Integer> told = get(losses, loss);
        return told == null ? -2 : sizeOrNth(new ArrayList<>(told), k, -2);
    }

    int fact(int log, int k, int what) {
        List<int[]> told = get(logs, log);
        if (told == null) {
            return -2;
        }
        if (k == NONE && what == 0) {
            return told.size();
        }
        return k < 0 || k >= told.size() || what < 0 || what > 1 ? -2 : told.get(k)[what];
    }

    int count(int sort) {
        return sort < 0 || sort > 3 ? -2 : listOf(sort).size();
    }

    // ---- runs

    static final class Run {
        final List<Integer> at = new ArrayList<>();
        /** Of each step: where it went, null if it ended the run itself. */
        final List<Integer> to = new ArrayList<>();
        final List<Boolean> yes = new ArrayList<>();
        final List<List<Integer>> open = new ArrayList<>();
        int end;
        int deepest;
        int used;
        int returns;
    }

    interface Choices {
        /** The next choice, null if there is none: for an if, or for a via. */
        Integer next(boolean forIf);
    }

    private static Choices choicesOf(List<Integer> drive) {
        ArrayDeque<Integer> left = new ArrayDeque<>(drive);
        return forIf -> left.isEmpty() || left.peek() >= 100 != forIf ? null : left.poll();
    }

    static Run run(Code code, Choices choices) {
        Run run = new Run();
        Deque<Integer> stack = new ArrayDeque<>();
        List<Integer> open = new ArrayList<>();
        int a = 0;
        run.end = 0;
        while (run.end == 0) {
            if (code.at(a) == null) {
                run.end = 3;
                break;
            }
            if (run.at.size() == 200) {
                run.end = 5;
                break;
            }
            Instruction here = code.at(a);
            run.at.add(a);
            run.open.add(List.copyOf(open));
            Integer to = null;
            boolean yes = false;
            switch (here.name()) {
                case "plain" -> to = a + 1;
                case "jump" -> to = here.target();
                case "stop" -> run.end = 1;
                case "call" -> {
                    if (stack.size() == 9) {
                        run.end = 4;
                    } else {
                        stack.push(a + 1);
                        open.add(a);
                        run.deepest = Math.max(run.deepest, stack.size());
                        to = here.target();
                    }
                }
                case "ret" -> {
                    if (stack.isEmpty()) {
                        run.end = 4;
                    } else {
                        to = stack.pop();
                        open.remove(open.size() - 1);
                        run.returns++;
                    }
                }
                default -> {
                    boolean forIf = here.name().equals("if");
                    Integer choice = choices.next(forIf);
                    if (choice == null) {
                        run.end = 2;
                    } else {
                        run.used++;
                        yes = choice == 101;
                        to = !forIf ? choice : yes ? (Integer) here.target() : (Integer) (a + 1);
                    }
                }
            }
            run.to.add(to);
            run.yes.add(yes);
            a = to == null ? a : to;
        }
        return run;
    }

    private Run runOf(int code, int drive) {
        Code told = get(codes, code);
        List<Integer> choices = get(drives, drive);
        return told == null || choices == null ? null : run(told, choicesOf(choices));
    }

    private static int tell(Code code, Run run, int what) {
        switch (what) {
            case 0:
                return run.at.size();
            case 1:
                return run.end;
            case 2: {
                Set<String> edges = new HashSet<>();
                for (int k = 1; k < run.at.size(); k++) {
                    edges.add(run.at.get(k - 1) + " " + run.at.get(k));
                }
                return edges.size();
            }
            case 3: {
                int loops = 0;
                for (int k = 1; k < run.at.size(); k++) {
                    loops += run.at.get(k - 1) >= run.at.get(k) ? 1 : 0;
                }
                return loops;
            }
            case 4:
                return run.deepest;
            case 5:
                return run.used;
            case 6:
                return (int) run.at.stream().filter(code::traces).count();
            case 7:
                return run.returns;
            default:
                return NONE;
        }
    }

    int run(int code, int drive, int what) {
        Run run = runOf(code, drive);
        return run == null ? NONE : tell(get(codes, code), run, what);
    }

    int step(int code, int drive, int k, boolean traced) {
        Run run = runOf(code, drive);
        if (run == null || k < 0 || k >= run.at.size()) {
            return NONE;
        }
        return !traced ? run.at.get(k) : get(codes, code).traces(run.at.get(k)) ? 1 : 0;
    }

    int open(int code, int drive, int k, int i) {
        Run run = runOf(code, drive);
        return run == null || k < 0 || k >= run.at.size() ? NONE : sizeOrNth(run.open.get(k), i, NONE);
    }

    int apart(int code, int drive, int other) {
        Run one = runOf(code, drive);
        Run two = runOf(code, other);
        if (one == null || two == null) {
            return NONE;
        }
        for (int k = 0; k < Math.max(one.at.size(), two.at.size()); k++) {
            if (k >= one.at.size() || k >= two.at.size() || !one.at.get(k).equals(two.at.get(k))) {
                return k;
            }
        }
        return NONE;
    }

    int visits(int code, int drive, int address) {
        Run run = runOf(code, drive);
        if (run == null || get(codes, code).at(address) == null) {
            return NONE;
        }
        return (int) run.at.stream().filter(a -> a == address).count();
    }

    int hot(int code, int drive, int k) {
        Run run = runOf(code, drive);
        if (run == null) {
            return NONE;
        }
        List<Integer> visited = new ArrayList<>(new TreeSet<>(run.at));
        // a stable sort keeps the least first among equals
        visited.sort((a, b) -> visits(code, drive, b) - visits(code, drive, a));
        return k < 0 || k >= visited.size() ? NONE : visited.get(k);
    }

    int drawn(int code, int seed, int n, int what) {
        Code told = get(codes, code);
        if (told == null || n < 0 || n > 60) {
            return NONE;
        }
        int[] x = {seed};
        int[] left = {n};
        IntUnaryOperator below = most -> {
            x[0] = x[0] * 1103515245 + 12345;
            return (x[0] >>> 16) % most;
        };
        Run run = run(told, forIf -> {
            if (left[0] == 0) {
                return null;
            }
            left[0]--;
            return forIf ? 100 + below.applyAsInt(2) : below.applyAsInt(told.size());
        });
        if (what == 10) {
            return run.at.isEmpty() ? NONE : run.at.get(run.at.size() - 1);
        }
        return what >= 0 && what <= 5 ? tell(told, run, what) : NONE;
    }

    // ---- codes

    private static TreeSet<Integer> heads(Code code) {
        TreeSet<Integer> heads = new TreeSet<>(Set.of(0));
        for (int a = 0; a < code.size(); a++) {
            if (code.at(a).target() != NONE) {
                heads.add(code.at(a).target());
            }
            if (!code.name(a).equals("plain")) {
                heads.add(a + 1);
            }
        }
        heads.removeIf(a -> code.at(a) == null);
        return heads;
    }

    int head(int code, int k) {
        Code told = get(codes, code);
        return told == null ? NONE : sizeOrNth(new ArrayList<>(heads(told)), k, NONE);
    }

    int block(int code, int drive) {
        Code told = get(codes, code);
        if (told == null) {
            return NONE;
        }
        Run run = runOf(code, drive);
        if (drive != NONE && run == null) {
            return NONE;
        }
        int best = NONE;
        long most = 0;
        TreeSet<Integer> heads = heads(told);
        for (int head : heads) {
            Integer next = heads.higher(head);
            int end = next == null ? told.size() : next;
            long weight = drive == NONE ? end - head : run.at.stream().filter(a -> a >= head && a < end).count();
            if (weight > most) {
                most = weight;
                best = head;
            }
        }
        return best;
    }

    int dead(int code, int k) {
        Code told = get(codes, code);
        if (told == null) {
            return NONE;
        }
        Set<Integer> reached = new HashSet<>(Set.of(0));
        for (int round = 0; round < 100; round++) {
            for (int a : List.copyOf(reached)) {
                switch (told.name(a)) {
                    case "plain" -> reached.add(a + 1);
                    case "if" -> reached.addAll(List.of(a + 1, told.at(a).target()));
                    case "jump", "call" -> reached.add(told.at(a).target());
                    case "ret" -> List.copyOf(reached).stream().filter(c -> told.name(c).equals("call"))
                            .forEach(c -> reached.add(c + 1));
                    case "via" -> {
                        for (int b = 0; b < told.size(); b++) {
                            reached.add(b);
                        }
                    }
                    default -> { }
                }
            }
        }
        List<Integer> dead = new ArrayList<>();
        for (int a = 0; a < told.size(); a++) {
            if (!reached.contains(a)) {
                dead.add(a);
            }
        }
        return sizeOrNth(dead, k, NONE);
    }

    // ---- packets

    /** One encoding of a run; a packet that is dropped ends its step by throwing. */
    static final class Encoding {
        static final class Dropped extends Exception {
            private static final long serialVersionUID = 1L;
        }

        final Code code;
        final int most;
        final int deep;
        final List<Packet> packets = new ArrayList<>();
        final Deque<Packet> buffer = new ArrayDeque<>();
        List<Integer> map = new ArrayList<>();
        final List<Integer> shadow = new ArrayList<>();
        int last;
        int count;
        boolean on;
        boolean blind;
        int dropped;
        int fullest;

        Encoding(Code code, Run run, int most, int deep) {
            this.code = code;
            this.most = most;
            this.deep = deep;
            int steps = run.at.size();
            for (int k = 0; k < steps; k++) {
                try {
                    step(k, run.at.get(k), run.to.get(k), run.yes.get(k));
                } catch (Dropped e) {
                    dropped++;
                }
            }
            try {
                if (on) {
                    putMap(steps);
                    put("END", count, 0, steps);
                }
            } catch (Dropped e) {
                dropped++;
            }
        }

        private void put(String kind, int value, int extra, int k) throws Dropped {
            if (buffer.size() == code.rule("room")) {
                map = new ArrayList<>();
                blind = true;
                on = false;
                throw new Dropped();
            }
            Packet packet = new Packet(kind, value, extra, k);
            packets.add(packet);
            buffer.add(packet);
            fullest = Math.max(fullest, buffer.size());
        }

        private void putMap(int k) throws Dropped {
            if (!map.isEmpty()) {
                int bits = 0;
                for (int i = 0; i < map.size(); i++) {
                    bits += map.get(i) << i;
                }
                put("MAP", bits, map.size(), k);
                map = new ArrayList<>();
            }
        }

        private void step(int k, int a, Integer to, boolean yes) throws Dropped {
            if (k > 0 && k % code.rule("rate") == 0) {
                buffer.poll();
            }
            if (blind && buffer.isEmpty()) {
                put("OVER", 0, 0, k);
                blind = false;
                on = false;
            }
            if (!blind && !code.traces(a) && on) {
                putMap(k);
                put("OFF", count, 0, k);
                on = false;
            }
            if (!blind && code.traces(a) && (!on || count >= code.rule("sync"))) {
                putMap(k);
                put("SYNC", a, on ? count : 0, k);
                on = true;
                count = 0;
                last = a;
                shadow.clear();
            }
            if (!on) {
                return;
            }
            switch (code.name(a)) {
                case "if" -> {
                    if (to != null) {
                        map.add(yes ? 1 : 0);
                    }
                }
                case "call" -> {
                    shadow.add(a + 1);
                    if (shadow.size() > deep) {
                        shadow.remove(0);
                    }
                }
                case "via" -> {
                    if (to != null) {
                        send(to, k);
                    }
                }
                case "ret" -> {
                    if (to != null) {
                        Integer top = shadow.isEmpty() ? null : shadow.remove(shadow.size() - 1);
                        if (to.equals(top)) {
                            map.add(1);
                        } else {
                            send(to, k);
                        }
                    }
                }
                default -> { }
            }
            if (map.size() == most) {
                putMap(k);
            }
            count++;
        }

        private void send(int to, int k) throws Dropped {
            putMap(k);
            put("GOTO", to, Integer.toOctalString(0100 + to).charAt(1) == Integer.toOctalString(0100 + last).charAt(1)
                    ? 1 : 2, k);
            last = to;
        }

        int sum() {
            return packets.stream().mapToInt(Packet::bits).sum();
        }
    }

    private Encoding encodingOf(int code, int drive) {
        Run run = runOf(code, drive);
        if (run == null) {
            return null;
        }
        Code told = get(codes, code);
        return new Encoding(told, run, told.rule("bits"), told.rule("deep"));
    }

    int packet(int code, int drive, int k, int what) {
        Encoding encoding = encodingOf(code, drive);
        Packet packet = encoding == null ? null : get(encoding.packets, k);
        if (packet == null) {
            return NONE;
        }
        return switch (what) {
            case 0 -> KINDS.indexOf(packet.kind());
            case 1 -> packet.value();
            case 2 -> packet.extra();
            case 3 -> packet.bits();
            case 4 -> packet.step();
            default -> NONE;
        };
    }

    // ---- what is rebuilt

    /** Each piece is a list of (address, step of the run). */
    static final class Rebuilding {
        final Code code;
        final List<List<int[]>> pieces = new ArrayList<>();
        Integer knows = null;
        int count;
        int step;
        int last;
        final List<Integer> shadow = new ArrayList<>();

        Rebuilding(Code code, List<Packet> packets, Set<Integer> lost) {
            this.code = code;
            for (int k = 0; k < packets.size(); k++) {
                if (lost.contains(k)) {
                    knows = null;
                } else {
                    hear(packets.get(k));
                }
            }
        }

        private void hear(Packet packet) {
            if (packet.kind().equals("SYNC")) {
                if (knows != null) {
                    goToCount(packet.extra());
                } else {
                    pieces.add(new ArrayList<>());
                }
                knows = packet.value();
                step = packet.step();
                count = 0;
                last = packet.value();
                shadow.clear();
                return;
            }
            if (knows == null) {
                return;
            }
            switch (packet.kind()) {
                case "MAP" -> {
                    for (int used = 0; used < packet.extra();) {
                        String name = code.name(knows);
                        if (name.equals("if")) {
                            goOn((packet.value() >> used & 1) == 1 ? (Integer) code.at(knows).target()
                                    : (Integer) (knows + 1));
                            used++;
                        } else if (name.equals("ret")) {
                            goOn(shadow.remove(shadow.size() - 1));
                            used++;
                        } else {
                            goOn(plainWay());
                        }
                    }
                }
                case "GOTO" -> {
                    while (!code.name(knows).equals("via") && !code.name(knows).equals("ret")) {
                        goOn(plainWay());
                    }
                    if (code.name(knows).equals("ret") && !shadow.isEmpty()) {
                        shadow.remove(shadow.size() - 1);
                    }
                    // one digit tells the low one alone: the high one is that of the last address
                    int told = packet.extra() == 1 ? last / 8 * 8 + packet.value() % 8 : packet.value();
                    goOn(told);
                    last = told;
                }
                case "OFF", "END" -> {
                    goToCount(packet.value());
                    knows = null;
                }
                default -> knows = null;
            }
        }

        private void goToCount(int to) {
            while (count < to) {
                goOn(plainWay());
            }
        }

        /** Null where something would have to tell the way. */
        private Integer plainWay() {
            Instruction here = code.at(knows);
            switch (here.name()) {
                case "plain":
                    return knows + 1;
                case "call":
                    shadow.add(knows + 1);
                    if (shadow.size() > code.rule("deep")) {
                        shadow.remove(0);
                    }
                    return here.target();
                case "jump":
                    return here.target();
                default:
                    return null;
            }
        }

        private void goOn(Integer to) {
            pieces.get(pieces.size() - 1).add(new int[] {knows, step});
            step++;
            count++;
            knows = to;
        }

        List<int[]> all() {
            List<int[]> all = new ArrayList<>();
            pieces.forEach(all::addAll);
            return all;
        }

        int times(int address) {
            return (int) all().stream().filter(each -> each[0] == address).count();
        }
    }

    private Rebuilding rebuilding(int code, int drive, Set<Integer> lost) {
        return new Rebuilding(get(codes, code), encodingOf(code, drive).packets, lost);
    }

    private Rebuilding rebuildingOf(int code, int drive, int loss) {
        Set<Integer> lost = loss == NONE ? Set.of() : get(losses, loss);
        return lost == null || runOf(code, drive) == null ? null : rebuilding(code, drive, lost);
    }

    int sent(int code, int drive, int what) {
        Encoding encoding = encodingOf(code, drive);
        if (encoding == null) {
            return -2;
        }
        Code told = get(codes, code);
        Run run = runOf(code, drive);
        int sum = encoding.sum();
        int traced = tell(told, run, 6);
        switch (what) {
            case 0:
                return encoding.packets.size();
            case 1:
                return sum;
            case 2:
            case 3: {
                if (traced == 0) {
                    return NONE;
                }
                int gcd = java.math.BigInteger.valueOf(sum).gcd(java.math.BigInteger.valueOf(traced)).intValue();
                return (what == 2 ? sum : traced) / gcd;
            }
            case 4:
                return encoding.dropped;
            case 5:
                return encoding.fullest;
            case 6: {
                boolean[] known = new boolean[run.at.size()];
                rebuilding(code, drive, Set.of()).all().forEach(each -> known[each[1]] = true);
                int longest = 0;
                for (int from = 0; from < known.length; from++) {
                    int to = from;
                    while (to < known.length && !known[to] && told.traces(run.at.get(to))) {
                        to++;
                    }
                    longest = Math.max(longest, to - from);
                }
                return longest;
            }
            case 7: {
                int best = 1;
                for (int bits = 2; bits <= 9; bits++) {
                    if (sumWith(told, run, bits, told.rule("deep")) < sumWith(told, run, best, told.rule("deep"))) {
                        best = bits;
                    }
                }
                return best;
            }
            case 8: {
                int best = NONE;
                for (int k = 0; k < encoding.packets.size(); k++) {
                    if (best == NONE || rebuilding(code, drive, Set.of(k)).all().size()
                            < rebuilding(code, drive, Set.of(best)).all().size()) {
                        best = k;
                    }
                }
                return best;
            }
            case 9:
                return sumWith(told, run, told.rule("bits"), 0) - sum;
            default:
                return what < 10 || what > 15 ? -2 : (int) encoding.packets.stream()
                        .filter(packet -> packet.kind().equals(KINDS.get(what - 10))).count();
        }
    }

    private static int sumWith(Code code, Run run, int bits, int deep) {
        return new Encoding(code, run, bits, deep).sum();
    }

    int rebuilt(int code, int drive, int loss, int what) {
        Rebuilding rebuilding = rebuildingOf(code, drive, loss);
        if (rebuilding == null) {
            return NONE;
        }
        List<int[]> all = rebuilding.all();
        // what is rebuilt is what was run
        Run run = runOf(code, drive);
        for (int[] each : all) {
            if (run.at.get(each[1]) != each[0]) {
                throw new IllegalStateException("rebuilt another address than was run");
            }
        }
        if (what == 0) {
            return all.size();
        }
        if (what == 1) {
            return rebuilding.pieces.size();
        }
        if (what == 2) {
            return rebuilding(code, drive, Set.of()).all().size() - all.size();
        }
        if (what >= 1000) {
            return what - 1000 < all.size() ? all.get(what - 1000)[0] : NONE;
        }
        return what >= 100 && what - 100 < rebuilding.pieces.size() ? rebuilding.pieces.get(what - 100).size() : NONE;
    }

    int missed(int code, int drive, int loss, int k) {
        Rebuilding rebuilding = rebuildingOf(code, drive, loss);
        if (rebuilding == null) {
            return NONE;
        }
        TreeSet<Integer> missed = new TreeSet<>(runOf(code, drive).at);
        missed.removeIf(a -> !get(codes, code).traces(a) || rebuilding.times(a) > 0);
        return sizeOrNth(new ArrayList<>(missed), k, NONE);
    }

    int fits(int code, int drive, int log, int what) {
        List<int[]> facts = get(logs, log);
        Encoding encoding = encodingOf(code, drive);
        if (facts == null || encoding == null) {
            return -2;
        }
        Map<Integer, Rebuilding> fit = new java.util.LinkedHashMap<>();
        for (int k = NONE; k < encoding.packets.size(); k++) {
            Rebuilding rebuilding = rebuilding(code, drive, Set.of(k));
            if (facts.stream().allMatch(fact -> rebuilding.times(fact[0]) == fact[1])) {
                fit.put(k, rebuilding);
            }
        }
        if (what == 0) {
            return fit.size();
        }
        if (what == 1) {
            int best = NONE;
            int least = Integer.MAX_VALUE;
            for (int a = 0; a < get(codes, code).size() && !fit.isEmpty(); a++) {
                int[] groups = new int[201];
                int address = a;
                fit.values().forEach(each -> groups[each.times(address)]++);
                int greatest = Arrays.stream(groups).max().getAsInt();
                if (greatest < least) {
                    least = greatest;
                    best = a;
                }
            }
            return best;
        }
        return what < 10 ? -2 : sizeOrNth(new ArrayList<>(fit.keySet()), what - 10, -2);
    }

    // ---- images

    private void takeFrom(Model other) {
        codes = new ArrayList<>(other.codes);
        drives = new ArrayList<>(other.drives);
        losses = new ArrayList<>(other.losses);
        logs = new ArrayList<>(other.logs);
        tape = other.tape;
        fault = other.fault;
        place = other.place;
    }

    boolean image(int k) {
        if (k < 0 || k > 2) {
            return false;
        }
        images[k] = new Model();
        images[k].takeFrom(this);
        return true;
    }

    boolean again(int k) {
        if (k < 0 || k > 2 || images[k] == null) {
            return false;
        }
        takeFrom(images[k]);
        return true;
    }
}
