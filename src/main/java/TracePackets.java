/**
 * Paths rebuilt from branch packets: CODES are run by DRIVES, the RUNS are encoded as PACKETS, and what is
 * rebuilt of them without those of a LOSS, or by which loss a LOG can be explained, is told.
 *
 * <p>Nothing is kept of a RUN between two calls: each call that asks for one makes it anew, in rows that the
 * constructor has made, so that no call makes an object.
 */
public final class TracePackets {
    public static final int NONE = -1;

    private static final int ABSENT = -2;
    /** Above every SUM and every number of STEPS or losses. */
    private static final int FAR_ABOVE = 1000000;

    private static final int SORTS = 4;
    private static final int CODES = 0;
    private static final int DRIVES = 1;
    private static final int LOSSES = 2;
    private static final int LOGS = 3;

    private static final int OF_A_SORT = 2;
    private static final int IMAGES = 3;
    private static final int TAPE = 600;
    private static final int ADDRESSES = 40;
    private static final int CHOICES = 60;
    private static final int STEPS = 200;
    private static final int STACK = 9;
    private static final int SHADOW = 5;
    /** Above ROOM and as many as can go out of the BUFFER in a RUN: 9 and 199. */
    private static final int PACKETS = 256;

    private static final int PLAIN = 0;
    private static final int IF = 1;
    private static final int JUMP = 2;
    private static final int CALL = 3;
    private static final int RET = 4;
    private static final int VIA = 5;

    private static final int RULES = 8;
    private static final int BITS = 0;
    private static final int DEEP = 1;
    private static final int PERIOD = 2;
    private static final int FROM = 3;
    private static final int TO = 4;
    private static final int ONLY = 5;
    private static final int ROOM = 6;
    private static final int RATE = 7;
    private static final int MOST_BITS = 9;
    private static final int BOTH_MODES = 2;

    private static final int NO = 100;
    private static final int YES = 101;

    private static final int BY_STOP = 1;
    private static final int BY_CHOICE = 2;
    private static final int BY_ADDRESS = 3;
    private static final int BY_STACK = 4;
    private static final int BY_STEPS = 5;

    private static final int SYNC = 0;
    private static final int MAP = 1;
    private static final int GOTO = 2;
    private static final int OFF = 3;
    private static final int END = 4;
    private static final int OVER = 5;
    private static final int KINDS = 6;

    private final State state = new State();
    private final State[] images = new State[IMAGES];
    private final Reader reader = new Reader();
    private final Run path = new Run();
    private final Run otherPath = new Run();
    private final Encoder encoder = new Encoder();
    private final Walk walk = new Walk();
    private final Pieces pieces = new Pieces();
    private final Fits fitting = new Fits();
    private final int[] weights = new int[ADDRESSES];

    public TracePackets() {
        for (int i = 0; i < IMAGES; i++) {
            images[i] = new State();
        }
    }

    public int feed(int a, int b, int c, int d, int e) {
        if (!state.hasRoomFor(20)) {
            return NONE;
        }
        state.append(a);
        state.append(b);
        state.append(c);
        state.append(d);
        state.append(e);
        return state.length;
    }

    public int end(int n) {
        if (n < 0 || n > state.length) {
            return NONE;
        }
        state.length = n;
        return n;
    }

    public int text(int sort, int at) {
        int length = state.length;
        state.length = 0;
        state.fault = 0;
        state.place = NONE;
        int slot = state.slotFor(sort, at);
        if (slot == NONE) {
            return ABSENT;
        }
        if (!reader.read(state.tape, length, sort)) {
            state.fault = reader.fault;
            state.place = reader.faultPlace;
            return NONE;
        }
        state.keep(sort, slot, reader);
        return slot;
    }

    public int fault(int what) {
        if (what == 0) {
            return state.fault;
        }
        return what == 1 ? state.place : NONE;
    }

    public int code(int code, int what) {
        Code told = state.codeOf(code);
        return told == null ? ABSENT : told.tell(what);
    }

    public int choice(int drive, int k) {
        return sizeOrValue(state.rowOf(DRIVES, drive), k);
    }

    public int loss(int loss, int k) {
        return sizeOrValue(state.rowOf(LOSSES, loss), k);
    }

    public int run(int code, int drive, int what) {
        return follow(code, drive) ? path.tell(what) : NONE;
    }

    public int step(int code, int drive, int k, boolean traced) {
        if (!follow(code, drive) || k < 0 || k >= path.steps) {
            return NONE;
        }
        if (!traced) {
            return path.at(k);
        }
        return path.isTraced(k) ? 1 : 0;
    }

    public int open(int code, int drive, int k, int i) {
        if (!follow(code, drive) || k < 0 || k >= path.steps) {
            return NONE;
        }
        return path.openAt(k, i);
    }

    public int apart(int code, int drive, int other) {
        Row two = state.rowOf(DRIVES, other);
        if (two == null || !follow(code, drive)) {
            return NONE;
        }
        otherPath.driveBy(path.code, two);
        otherPath.go();
        int both = Math.min(path.steps, otherPath.steps);
        for (int k = 0; k < both; k++) {
            if (path.at(k) != otherPath.at(k)) {
                return k;
            }
        }
        return path.steps == otherPath.steps ? NONE : both;
    }

    public int head(int code, int k) {
        Code told = state.codeOf(code);
        return told == null ? NONE : sizeOrMember(told.heads(), k);
    }

    public int block(int code, int drive) {
        Code told = state.codeOf(code);
        if (told == null) {
            return NONE;
        }
        if (drive == NONE) {
            for (int a = 0; a < ADDRESSES; a++) {
                weights[a] = 1;
            }
            return told.heaviestBlock(weights);
        }
        if (!follow(code, drive)) {
            return NONE;
        }
        path.visitsInto(weights);
        return told.heaviestBlock(weights);
    }

    public int packet(int code, int drive, int k, int what) {
        if (!follow(code, drive)) {
            return NONE;
        }
        encode();
        return encoder.packets.tell(k, what);
    }

    public int sent(int code, int drive, int what) {
        if (!follow(code, drive)) {
            return ABSENT;
        }
        encode();
        Packets packets = encoder.packets;
        switch (what) {
            case 0:
                return packets.size;
            case 1:
                return packets.sum();
            case 2:
                return ratio(true);
            case 3:
                return ratio(false);
            case 4:
                return encoder.dropped;
            case 5:
                return encoder.fullest;
            case 6:
                return gap();
            case 7:
                return leastBits();
            case 8:
                return worst();
            case 9:
                return saved();
            default:
                return what >= 10 && what < 10 + KINDS ? packets.ofKind(what - 10) : ABSENT;
        }
    }

    public int rebuilt(int code, int drive, int loss, int what) {
        Row lost = state.rowOf(LOSSES, loss);
        if (lost == null && loss != NONE || !follow(code, drive)) {
            return NONE;
        }
        encode();
        rebuild(lost);
        return what == 2 ? walk.size - pieces.size : pieces.tell(what);
    }

    public int missed(int code, int drive, int loss, int k) {
        Row lost = state.rowOf(LOSSES, loss);
        if (lost == null && loss != NONE || !follow(code, drive)) {
            return NONE;
        }
        encode();
        rebuild(lost);
        long set = 0L;
        for (int j = 0; j < path.steps; j++) {
            if (path.isTraced(j)) {
                set |= member(path.at(j));
            }
        }
        for (int j = 0; j < pieces.size; j++) {
            set &= ~member(pieces.address(j));
        }
        return sizeOrMember(set, k);
    }

    public int visits(int code, int drive, int address) {
        if (!follow(code, drive) || !path.hasInstruction(address)) {
            return NONE;
        }
        path.visitsInto(weights);
        return weightOf(address);
    }

    public int hot(int code, int drive, int k) {
        if (k < 0 || k >= ADDRESSES || !follow(code, drive)) {
            return NONE;
        }
        path.visitsInto(weights);
        for (int i = 0; i < k; i++) {
            int ahead = hottest();
            if (ahead == NONE) {
                return NONE;
            }
            weights[ahead] = 0;
        }
        return hottest();
    }

    public int dead(int code, int k) {
        Code told = state.codeOf(code);
        return told == null ? NONE : sizeOrMember(told.unreached(), k);
    }

    public int fact(int log, int k, int what) {
        Row told = state.rowOf(LOGS, log);
        if (told == null) {
            return ABSENT;
        }
        if (k == NONE) {
            return what == 0 ? told.size : ABSENT;
        }
        if (k < 0 || k >= told.size) {
            return ABSENT;
        }
        if (what == 0) {
            return told.value(k);
        }
        return what == 1 ? told.often(k) : ABSENT;
    }

    public int fits(int code, int drive, int log, int what) {
        Row facts = state.rowOf(LOGS, log);
        if (facts == null || !follow(code, drive)) {
            return ABSENT;
        }
        encode();
        walk.go(path.code, encoder.packets);
        fitting.find(walk, pieces, facts);
        if (what == 0) {
            return fitting.size;
        }
        if (what == 1) {
            return fitting.ask(path.code);
        }
        return what >= 10 ? fitting.lossAt(what - 10) : ABSENT;
    }

    public int drawn(int code, int seed, int n, int what) {
        Code told = state.codeOf(code);
        if (told == null || n < 0 || n > CHOICES) {
            return NONE;
        }
        path.drawBy(told, seed, n);
        path.go();
        if (what == 10) {
            return path.steps == 0 ? NONE : path.at(path.steps - 1);
        }
        return what >= 0 && what <= 5 ? path.tell(what) : NONE;
    }

    public int count(int sort) {
        return sort < 0 || sort >= SORTS ? ABSENT : state.sizeOf(sort);
    }

    public boolean image(int k) {
        State kept = imageOf(k);
        if (kept == null) {
            return false;
        }
        kept.copyFrom(state);
        kept.made = true;
        return true;
    }

    public boolean again(int k) {
        State kept = imageOf(k);
        if (kept == null || !kept.made) {
            return false;
        }
        state.copyFrom(kept);
        return true;
    }

    private State imageOf(int k) {
        return k < 0 || k >= IMAGES ? null : images[k];
    }

    private static int sizeOrValue(Row row, int k) {
        if (row == null) {
            return ABSENT;
        }
        if (k == NONE) {
            return row.size;
        }
        return k < 0 || k >= row.size ? ABSENT : row.value(k);
    }

    /** The set that holds an ADDRESS alone; without members, where there can be no such ADDRESS. */
    private static long member(int address) {
        return address < 0 || address >= ADDRESSES ? 0L : 1L << address;
    }

    /** How many members a set of ADDRESSES has (k NONE), or the k-th, rising. */
    private static int sizeOrMember(long set, int k) {
        if (k == NONE) {
            return Long.bitCount(set);
        }
        int ahead = 0;
        for (int a = 0; a < ADDRESSES; a++) {
            if ((set & member(a)) != 0L) {
                if (ahead == k) {
                    return a;
                }
                ahead++;
            }
        }
        return NONE;
    }

    /** Makes the RUN of a CODE by a DRIVE: false if there is none such. */
    private boolean follow(int code, int drive) {
        Code told = state.codeOf(code);
        Row choices = state.rowOf(DRIVES, drive);
        if (told == null || choices == null) {
            return false;
        }
        path.driveBy(told, choices);
        path.go();
        return true;
    }

    /** Encodes the RUN that was made by the rules that its CODE tells. */
    private void encode() {
        Code told = path.code;
        if (told != null) {
            encoder.encode(told, path, told.rule(BITS), told.rule(DEEP));
        }
    }

    /** Rebuilds the RUN that was encoded from its PACKETS but those of a LOSS (null: none is lost). */
    private void rebuild(Row lost) {
        walk.go(path.code, encoder.packets);
        pieces.sift(walk, lost, NONE);
    }

    private int weightOf(int address) {
        return address < 0 || address >= ADDRESSES ? 0 : weights[address];
    }

    /** The least ADDRESS of the greatest weight; NONE if all weigh nothing. */
    private int hottest() {
        int best = NONE;
        int most = 0;
        for (int a = 0; a < ADDRESSES; a++) {
            if (weights[a] > most) {
                most = weights[a];
                best = a;
            }
        }
        return best;
    }

    private int ratio(boolean numerator) {
        int over = encoder.packets.sum();
        int under = path.traced();
        int divisor = greatestDivisor(over, under);
        if (under == 0 || divisor == 0) {
            return NONE;
        }
        return (numerator ? over : under) / divisor;
    }

    private static int greatestDivisor(int a, int b) {
        int x = a;
        int y = b;
        // Euclid's way halves the greater number in two rounds: 64 rounds are enough for any two ints.
        for (int round = 0; round < 64 && y != 0; round++) {
            int rest = x % y;
            x = y;
            y = rest;
        }
        return x;
    }

    private int gap() {
        walk.go(path.code, encoder.packets);
        int longest = 0;
        int row = 0;
        int told = 0;
        for (int k = 0; k < path.steps; k++) {
            boolean here = told < walk.size && walk.stepAt(told) == k;
            if (here) {
                told++;
            }
            row = path.isTraced(k) && !here ? row + 1 : 0;
            longest = Math.max(longest, row);
        }
        return longest;
    }

    private int leastBits() {
        Code told = path.code;
        if (told == null) {
            return NONE;
        }
        int best = 1;
        int least = FAR_ABOVE;
        for (int bits = 1; bits <= MOST_BITS; bits++) {
            encoder.encode(told, path, bits, told.rule(DEEP));
            int sum = encoder.packets.sum();
            if (sum < least) {
                least = sum;
                best = bits;
            }
        }
        return best;
    }

    private int worst() {
        walk.go(path.code, encoder.packets);
        int best = NONE;
        int fewest = FAR_ABOVE;
        for (int k = 0; k < encoder.packets.size; k++) {
            pieces.sift(walk, null, k);
            if (pieces.size < fewest) {
                fewest = pieces.size;
                best = k;
            }
        }
        return best;
    }

    private int saved() {
        Code told = path.code;
        if (told == null) {
            return 0;
        }
        int sum = encoder.packets.sum();
        encoder.encode(told, path, told.rule(BITS), 0);
        return encoder.packets.sum() - sum;
    }

    /** A CODE: INSTRUCTIONS and the rules of tracing. */
    private static final class Code {
        private static final int[] RULES_AT_FIRST = {6, 2, 20, 0, 39, 2, 9, 1};

        private final int[] kinds = new int[ADDRESSES];
        private final int[] targets = new int[ADDRESSES];
        private final int[] modes = new int[ADDRESSES];
        private final int[] rules = new int[RULES];
        int size;

        void clear() {
            size = 0;
            System.arraycopy(RULES_AT_FIRST, 0, rules, 0, RULES);
        }

        void copyFrom(Code other) {
            size = other.size;
            System.arraycopy(other.kinds, 0, kinds, 0, ADDRESSES);
            System.arraycopy(other.targets, 0, targets, 0, ADDRESSES);
            System.arraycopy(other.modes, 0, modes, 0, ADDRESSES);
            System.arraycopy(other.rules, 0, rules, 0, RULES);
        }

        void add(int kind, int target, int mode) {
            if (size >= 0 && size < ADDRESSES) {
                kinds[size] = kind;
                targets[size] = target;
                modes[size] = mode;
                size++;
            }
        }

        boolean has(int address) {
            return address >= 0 && address < size && address < ADDRESSES;
        }

        int kindAt(int address) {
            return has(address) ? kinds[address] : NONE;
        }

        int targetAt(int address) {
            return has(address) ? targets[address] : NONE;
        }

        int rule(int which) {
            return which < 0 || which >= RULES ? 0 : rules[which];
        }

        void setRule(int which, int value) {
            if (which >= 0 && which < RULES) {
                rules[which] = value;
            }
        }

        boolean traces(int address) {
            if (!has(address) || address < rules[FROM] || address > rules[TO]) {
                return false;
            }
            return rules[ONLY] == BOTH_MODES || rules[ONLY] == modes[address];
        }

        int tell(int what) {
            if (what == 0) {
                return size;
            }
            if (what >= 1 && what <= RULES) {
                return rule(what - 1);
            }
            if (what < 100 || what >= 400 || !has(what % 100)) {
                return ABSENT;
            }
            int address = what % 100;
            if (what < 200) {
                return kindAt(address);
            }
            return what < 300 ? targetAt(address) : modes[address];
        }

        boolean hasStrayTarget() {
            for (int a = 0; a < size && a < ADDRESSES; a++) {
                if (targets[a] != NONE && !has(targets[a])) {
                    return true;
                }
            }
            return false;
        }

        private long set(int address) {
            return has(address) ? member(address) : 0L;
        }

        private long all() {
            long set = 0L;
            for (int a = 0; a < size; a++) {
                set |= member(a);
            }
            return set;
        }

        long heads() {
            long heads = set(0);
            for (int a = 0; a < size; a++) {
                if (kindAt(a) != PLAIN) {
                    heads |= set(targetAt(a)) | set(a + 1);
                }
            }
            return heads;
        }

        /** The HEAD of the BLOCK whose ADDRESSES weigh most, the least of several; NONE if none weighs anything. */
        int heaviestBlock(int[] weights) {
            long heads = heads();
            int best = NONE;
            int most = 0;
            int head = NONE;
            int weight = 0;
            for (int a = 0; a < size && a < weights.length; a++) {
                if ((heads & member(a)) != 0L) {
                    head = a;
                    weight = 0;
                }
                weight += weights[a];
                // A block that ends above the best so far passes it at some ADDRESS of its own.
                if (weight > most) {
                    most = weight;
                    best = head;
                }
            }
            return best;
        }

        /** INSTRUCTIONS that no way from 0 leads to. */
        long unreached() {
            long reached = set(0);
            // A round that adds nothing is the last one: there are no more rounds than INSTRUCTIONS.
            for (int round = 0; round < ADDRESSES; round++) {
                long more = reached;
                for (int a = 0; a < size; a++) {
                    if ((reached & member(a)) != 0L) {
                        more |= waysFrom(a, reached);
                    }
                }
                if (more == reached) {
                    break;
                }
                reached = more;
            }
            return all() & ~reached;
        }

        private long waysFrom(int address, long reached) {
            switch (kindAt(address)) {
                case PLAIN:
                    return set(address + 1);
                case IF:
                    return set(address + 1) | set(targetAt(address));
                case JUMP:
                case CALL:
                    return set(targetAt(address));
                case RET:
                    return behindCalls(reached);
                case VIA:
                    return all();
                default:
                    return 0L;
            }
        }

        private long behindCalls(long reached) {
            long set = 0L;
            for (int a = 0; a < size; a++) {
                if (kindAt(a) == CALL && (reached & member(a)) != 0L) {
                    set |= set(a + 1);
                }
            }
            return set;
        }
    }

    /** What a DRIVE, a LOSS or a LOG has: values, and (of a LOG) how often each of them was seen. */
    private static final class Row {
        private final int[] values;
        private final int[] times;
        int size;

        Row(int most) {
            int length = Math.max(most, 0);
            values = new int[length];
            times = new int[length];
        }

        void clear() {
            size = 0;
        }

        void copyFrom(Row other) {
            size = 0;
            for (int k = 0; k < other.size; k++) {
                add(other.value(k), other.often(k));
            }
        }

        void add(int value, int often) {
            if (size >= 0 && size < values.length && size < times.length) {
                values[size] = value;
                times[size] = often;
                size++;
            }
        }

        /** Keeps a value once, behind all that are less. */
        void addRising(int value) {
            if (size < 0 || size >= values.length || holds(value)) {
                return;
            }
            int k = size;
            while (k > 0 && values[k - 1] > value) {
                values[k] = values[k - 1];
                k--;
            }
            values[k] = value;
            size++;
        }

        boolean holds(int value) {
            for (int k = 0; k < size; k++) {
                if (k < values.length && values[k] == value) {
                    return true;
                }
            }
            return false;
        }

        int value(int k) {
            return k < 0 || k >= size || k >= values.length ? NONE : values[k];
        }

        int often(int k) {
            return k < 0 || k >= size || k >= times.length ? NONE : times[k];
        }
    }

    /** All that is told: the tape, the FAULT, and the texts that were taken. */
    private static final class State {
        private static final int[] MOST_OF_A_TEXT = {0, CHOICES, 12, 8};

        final byte[] tape = new byte[TAPE];
        int length;
        int fault;
        int place = NONE;
        /** Of an image: it was made. */
        boolean made;
        private final Code[] codes = new Code[OF_A_SORT];
        private final Row[] rows = new Row[SORTS * OF_A_SORT];
        private final int[] sizes = new int[SORTS];

        State() {
            for (int i = 0; i < OF_A_SORT; i++) {
                codes[i] = new Code();
            }
            for (int i = 0; i < SORTS * OF_A_SORT; i++) {
                rows[i] = new Row(MOST_OF_A_TEXT[i / OF_A_SORT]);
            }
        }

        void copyFrom(State other) {
            System.arraycopy(other.tape, 0, tape, 0, TAPE);
            length = other.length;
            fault = other.fault;
            place = other.place;
            System.arraycopy(other.sizes, 0, sizes, 0, SORTS);
            for (int i = 0; i < OF_A_SORT; i++) {
                codes[i].copyFrom(other.codes[i]);
            }
            for (int i = 0; i < SORTS * OF_A_SORT; i++) {
                rows[i].copyFrom(other.rows[i]);
            }
        }

        boolean hasRoomFor(int bytes) {
            return length >= 0 && bytes <= TAPE - length;
        }

        void append(int four) {
            if (!hasRoomFor(4)) {
                return;
            }
            for (int i = 0; i < 4; i++) {
                tape[length + i] = (byte) (four >> 24 - 8 * i);
            }
            length += 4;
        }

        int sizeOf(int sort) {
            return sort < 0 || sort >= SORTS ? 0 : sizes[sort];
        }

        /** Where a text of a sort goes: NONE if there is no such place. */
        int slotFor(int sort, int at) {
            if (sort < 0 || sort >= SORTS) {
                return NONE;
            }
            int size = sizes[sort];
            if (at == NONE) {
                return size < OF_A_SORT ? size : NONE;
            }
            return at < 0 || at >= size ? NONE : at;
        }

        void keep(int sort, int slot, Reader reader) {
            if (sort < 0 || sort >= SORTS || slot < 0 || slot >= OF_A_SORT) {
                return;
            }
            if (sort == CODES) {
                codes[slot].copyFrom(reader.code);
            } else {
                rows[sort * OF_A_SORT + slot].copyFrom(reader.row);
            }
            sizes[sort] = Math.max(sizes[sort], slot + 1);
        }

        /** The CODE of a number; null if there is none. */
        Code codeOf(int number) {
            return number < 0 || number >= sizes[CODES] || number >= OF_A_SORT ? null : codes[number];
        }

        /** The DRIVE, LOSS or LOG of a number; null if there is none. */
        Row rowOf(int sort, int number) {
            if (sort <= CODES || sort >= SORTS || number < 0 || number >= sizes[sort] || number >= OF_A_SORT) {
                return null;
            }
            return rows[sort * OF_A_SORT + number];
        }
    }

    /** Reads a text of any sort: each is a row of lines, a word, as many NUMBERS as it has, a semicolon. */
    private static final class Reader {
        /** Each word has six signs: seven of INSTRUCTIONS, mode, eight of rules, of a DRIVE, a LOSS, a LOG. */
        private static final String WORDS =
                "plain if    jump  call  ret   via   stop  mode  bits  deep  sync  from  to    only  room  rate  n     y     go    lose  saw   ";
        private static final int WIDTH = 6;
        private static final int MODE_WORD = 7;
        private static final int RULE_WORD = 8;
        private static final int NO_WORD = 16;
        private static final int YES_WORD = 17;
        private static final int GO_WORD = 18;
        private static final int LOSE_WORD = 19;
        private static final int SAW_WORD = 20;
        private static final int ALL_WORDS = 21;
        private static final int[] FIRST_WORD = {0, 16, 19, 20, 21};
        private static final int[] NUMBERS = {0, 1, 1, 1, 0, 0, 0, 1, 1, 1, 1, 1, 1, 1, 1, 1, 0, 0, 1, 1, 2};
        private static final int[] LEAST = {0, 0, 0, 0, 0, 0, 0, 0, 1, 0, 2, 0, 0, 0, 3, 1, 0, 0, 0, 0, 0};
        private static final int[] MOST = {0, 39, 39, 39, 0, 0, 0, 1, 9, 4, 99, 39, 39, 2, 9, 9, 0, 0, 39, 99, 39};
        private static final int[] MOST_ITEMS = {40, 60, 12, 8};

        private static final int END_TOKEN = 0;
        private static final int WORD_TOKEN = 1;
        private static final int NUMBER_TOKEN = 2;
        private static final int SEMICOLON_TOKEN = 3;
        private static final int NO_TOKEN = 4;

        private byte[] bytes;
        private int length;
        private int next;
        private int token;
        private int start;
        private int number;
        private int items;
        private int mode;
        int fault;
        int faultPlace;
        final Code code = new Code();
        final Row row = new Row(CHOICES);

        /** Reads the first bytes of a tape: false with a FAULT, else what was told stands in code or row. */
        boolean read(byte[] tape, int size, int sort) {
            bytes = tape;
            length = Math.min(size, tape.length);
            next = 0;
            items = 0;
            mode = 0;
            fault = 0;
            faultPlace = NONE;
            code.clear();
            row.clear();
            readLines(sort);
            if (fault == 0 && sort == CODES && code.hasStrayTarget()) {
                note(4, length);
            }
            return fault == 0;
        }

        private void readLines(int sort) {
            for (int line = 0; line <= length; line++) {
                advance();
                if (token == END_TOKEN) {
                    return;
                }
                if (!readLine(sort)) {
                    fault = 1;
                    faultPlace = start;
                    return;
                }
            }
        }

        /** False if a token was met with which no text goes on. */
        private boolean readLine(int sort) {
            int word = wordOf(sort);
            if (word == NONE) {
                return false;
            }
            countItem(sort, word);
            int first = 0;
            int last = 0;
            for (int i = 0; i < NUMBERS[word]; i++) {
                advance();
                if (token != NUMBER_TOKEN) {
                    return false;
                }
                if (i == 0) {
                    first = number;
                    checkNumber(word);
                }
                last = number;
            }
            advance();
            if (token != SEMICOLON_TOKEN) {
                return false;
            }
            if (fault == 0) {
                take(word, first, last);
            }
            return true;
        }

        private void countItem(int sort, int word) {
            if (word >= MODE_WORD && word < NO_WORD) {
                return;
            }
            items++;
            if (items > MOST_ITEMS[sort]) {
                note(3, start);
            }
        }

        private void checkNumber(int word) {
            if (number < LEAST[word] || number > MOST[word]) {
                note(2, start);
            }
        }

        /** Places are met rising, so the first FAULT that is noted is the first by place. */
        private void note(int which, int place) {
            if (fault == 0) {
                fault = which;
                faultPlace = place;
            }
        }

        private void take(int word, int first, int last) {
            if (word < MODE_WORD) {
                code.add(word, NUMBERS[word] == 1 ? first : NONE, mode);
            } else if (word == MODE_WORD) {
                mode = first;
            } else if (word < NO_WORD) {
                code.setRule(word - RULE_WORD, first);
            } else if (word == NO_WORD) {
                row.add(NO, 0);
            } else if (word == YES_WORD) {
                row.add(YES, 0);
            } else if (word == GO_WORD) {
                row.add(first, 0);
            } else if (word == LOSE_WORD) {
                row.addRising(first);
            } else if (word == SAW_WORD) {
                row.add(first, last);
            }
        }

        /** Which of a sort's words the token is: NONE if none. */
        private int wordOf(int sort) {
            if (token != WORD_TOKEN || sort < 0 || sort >= SORTS) {
                return NONE;
            }
            for (int word = FIRST_WORD[sort]; word < FIRST_WORD[sort + 1] && word < ALL_WORDS; word++) {
                if (isWord(word * WIDTH)) {
                    return word;
                }
            }
            return NONE;
        }

        private boolean isWord(int from) {
            int size = next - start;
            if (size >= WIDTH || from < 0 || from + WIDTH > WORDS.length()) {
                return false;
            }
            for (int i = 0; i < size; i++) {
                if (WORDS.charAt(from + i) != byteAt(start + i)) {
                    return false;
                }
            }
            return WORDS.charAt(from + size) == ' ';
        }

        private int byteAt(int place) {
            return bytes == null || place < 0 || place >= length || place >= bytes.length ? NONE : bytes[place] & 255;
        }

        private void advance() {
            while (next < length && isBlank(byteAt(next))) {
                next++;
            }
            start = next;
            int sign = byteAt(next);
            if (next >= length) {
                token = END_TOKEN;
            } else if (isLetter(sign)) {
                advanceWord();
            } else if (isDigit(sign)) {
                advanceNumber();
            } else {
                token = sign == ';' ? SEMICOLON_TOKEN : NO_TOKEN;
                next++;
            }
        }

        private void advanceWord() {
            token = WORD_TOKEN;
            while (next < length && isLetter(byteAt(next))) {
                next++;
            }
        }

        private void advanceNumber() {
            number = 0;
            while (next < length && isDigit(byteAt(next))) {
                if (next < start + 2) {
                    number = number * 10 + byteAt(next) - '0';
                }
                next++;
            }
            token = next - start <= 2 ? NUMBER_TOKEN : NO_TOKEN;
        }

        private static boolean isBlank(int sign) {
            return sign == 10 || sign == 32;
        }

        private static boolean isLetter(int sign) {
            return sign >= 'a' && sign <= 'z';
        }

        private static boolean isDigit(int sign) {
            return sign >= '0' && sign <= '9';
        }
    }

    /** A RUN of a CODE, by the CHOICES of a DRIVE or by such as are DRAWN. */
    private static final class Run {
        private final int[] at = new int[STEPS];
        /** The ADDRESS behind each STEP: NONE if the STEP itself ENDS the RUN. */
        private final int[] behind = new int[STEPS];
        private final boolean[] taken = new boolean[STEPS];
        private final int[] stack = new int[STACK];
        private final long[] edges = new long[ADDRESSES];
        Code code;
        int steps;
        private Row drive;
        private int seed;
        private int most;
        private int depth;
        private int ending;
        private int deepest;
        private int used;
        private int returns;

        void driveBy(Code told, Row choices) {
            code = told;
            drive = choices;
        }

        void drawBy(Code told, int from, int choices) {
            code = told;
            drive = null;
            seed = from;
            most = choices;
        }

        void go() {
            steps = 0;
            depth = 0;
            deepest = 0;
            used = 0;
            returns = 0;
            ending = BY_ADDRESS;
            int address = 0;
            for (int k = 0; k < STEPS; k++) {
                if (!hasInstruction(address)) {
                    return;
                }
                steps = k + 1;
                at[k] = address;
                taken[k] = false;
                address = leadFrom(k, address);
                behind[k] = address;
                if (address == NONE) {
                    return;
                }
            }
            if (hasInstruction(address)) {
                ending = BY_STEPS;
            }
        }

        private int leadFrom(int k, int address) {
            if (code == null) {
                return NONE;
            }
            switch (code.kindAt(address)) {
                case PLAIN:
                    return address + 1;
                case IF:
                    return branch(k, address);
                case JUMP:
                    return code.targetAt(address);
                case CALL:
                    return enter(address);
                case RET:
                    return leave();
                case VIA:
                    return chosen(false);
                default:
                    return endBy(BY_STOP);
            }
        }

        private int endBy(int cause) {
            ending = cause;
            return NONE;
        }

        private int branch(int k, int address) {
            int choice = chosen(true);
            if (choice == NONE || code == null || k < 0 || k >= STEPS) {
                return NONE;
            }
            taken[k] = choice == YES;
            return taken[k] ? code.targetAt(address) : address + 1;
        }

        private int enter(int address) {
            if (code == null || depth < 0 || depth >= STACK) {
                return endBy(BY_STACK);
            }
            stack[depth] = address + 1;
            depth++;
            deepest = Math.max(deepest, depth);
            return code.targetAt(address);
        }

        private int leave() {
            if (depth <= 0 || depth > STACK) {
                return endBy(BY_STACK);
            }
            depth--;
            returns++;
            return stack[depth];
        }

        /** The next CHOICE, if it is one for an if (or for a via): NONE, and the RUN ENDS, if not. */
        private int chosen(boolean forIf) {
            int choice = drive == null ? drawnChoice(forIf) : drive.value(used);
            boolean forSomeIf = choice == NO || choice == YES;
            if (choice == NONE || forSomeIf != forIf) {
                return endBy(BY_CHOICE);
            }
            used++;
            return choice;
        }

        private int drawnChoice(boolean forIf) {
            if (used >= most || code == null) {
                return NONE;
            }
            seed = seed * 1103515245 + 12345;
            int below = forIf ? 2 : code.size;
            int draw = below <= 0 ? 0 : (seed >>> 16) % below;
            return forIf ? NO + draw : draw;
        }

        boolean hasInstruction(int address) {
            return code != null && code.has(address);
        }

        int at(int k) {
            return k < 0 || k >= steps || k >= STEPS ? NONE : at[k];
        }

        int behind(int k) {
            return k < 0 || k >= steps || k >= STEPS ? NONE : behind[k];
        }

        boolean isTaken(int k) {
            return k >= 0 && k < steps && k < STEPS && taken[k];
        }

        boolean isTraced(int k) {
            return code != null && code.traces(at(k));
        }

        int tell(int what) {
            switch (what) {
                case 0:
                    return steps;
                case 1:
                    return ending;
                case 2:
                    return edgeCount();
                case 3:
                    return loops();
                case 4:
                    return deepest;
                case 5:
                    return used;
                case 6:
                    return traced();
                case 7:
                    return returns;
                default:
                    return NONE;
            }
        }

        private int edgeCount() {
            for (int a = 0; a < ADDRESSES; a++) {
                edges[a] = 0L;
            }
            for (int k = 1; k < steps; k++) {
                int from = at(k - 1);
                if (from >= 0 && from < ADDRESSES) {
                    edges[from] |= member(at(k));
                }
            }
            int sum = 0;
            for (int a = 0; a < ADDRESSES; a++) {
                sum += Long.bitCount(edges[a]);
            }
            return sum;
        }

        private int loops() {
            int sum = 0;
            for (int k = 1; k < steps; k++) {
                if (at(k) <= at(k - 1)) {
                    sum++;
                }
            }
            return sum;
        }

        int traced() {
            int sum = 0;
            for (int k = 0; k < steps; k++) {
                if (isTraced(k)) {
                    sum++;
                }
            }
            return sum;
        }

        /** OPEN at a STEP: how many (i NONE), or the i-th. */
        int openAt(int step, int i) {
            int size = 0;
            for (int k = 0; k < step && k < steps; k++) {
                int kind = code == null ? NONE : code.kindAt(at(k));
                if (kind == CALL && size < STACK) {
                    stack[size] = at(k);
                    size++;
                } else if (kind == RET && size > 0) {
                    size--;
                }
            }
            if (i == NONE) {
                return size;
            }
            return i < 0 || i >= size ? NONE : stack[i];
        }

        void visitsInto(int[] visits) {
            for (int a = 0; a < visits.length; a++) {
                visits[a] = 0;
            }
            for (int k = 0; k < steps; k++) {
                int address = at(k);
                if (address >= 0 && address < visits.length) {
                    visits[address]++;
                }
            }
        }
    }

    /** The ADDRESSES that returns are expected to go to, as both sides, the encoding and the rebuilding, keep them. */
    private static final class Shadow {
        private final int[] rows = new int[SHADOW];
        private int size;

        void clear() {
            size = 0;
        }

        void push(int address, int deep) {
            if (size >= 0 && size < SHADOW) {
                rows[size] = address;
                size++;
            }
            if (size > deep && size > 0) {
                for (int i = 1; i < size && i < SHADOW; i++) {
                    rows[i - 1] = rows[i];
                }
                size--;
            }
        }

        /** Takes the top off: NONE if there is none. */
        int pop() {
            if (size <= 0 || size > SHADOW) {
                return NONE;
            }
            size--;
            return rows[size];
        }
    }

    /** PACKETS as they were PUT. */
    private static final class Packets {
        private final int[] kinds = new int[PACKETS];
        private final int[] values = new int[PACKETS];
        private final int[] extras = new int[PACKETS];
        private final int[] steps = new int[PACKETS];
        int size;

        void clear() {
            size = 0;
        }

        void add(int kind, int value, int extra, int step) {
            if (size >= 0 && size < PACKETS) {
                kinds[size] = kind;
                values[size] = value;
                extras[size] = extra;
                steps[size] = step;
                size++;
            }
        }

        private boolean has(int k) {
            return k >= 0 && k < size && k < PACKETS;
        }

        int kind(int k) {
            return has(k) ? kinds[k] : NONE;
        }

        /** The ADDRESS, the bits of a MAP (the first one is 1 of the number), or the COUNT of OFF and END. */
        int value(int k) {
            return has(k) ? values[k] : NONE;
        }

        /** COUNT of SYNC, how many bits of a MAP, digits of GOTO. */
        int extra(int k) {
            return has(k) ? extras[k] : NONE;
        }

        int stepOf(int k) {
            return has(k) ? steps[k] : NONE;
        }

        int bits(int k) {
            switch (kind(k)) {
                case SYNC:
                    return 16;
                case MAP:
                    return 4 + extra(k);
                case GOTO:
                    return 4 + 3 * extra(k);
                case OFF:
                case END:
                    return 10;
                case OVER:
                    return 4;
                default:
                    return NONE;
            }
        }

        int tell(int k, int what) {
            switch (what) {
                case 0:
                    return kind(k);
                case 1:
                    return value(k);
                case 2:
                    return extra(k);
                case 3:
                    return bits(k);
                case 4:
                    return stepOf(k);
                default:
                    return NONE;
            }
        }

        int sum() {
            int sum = 0;
            for (int k = 0; k < size; k++) {
                sum += bits(k);
            }
            return sum;
        }

        int ofKind(int kind) {
            int sum = 0;
            for (int k = 0; k < size; k++) {
                if (kind(k) == kind) {
                    sum++;
                }
            }
            return sum;
        }
    }

    /** Encodes a RUN STEP by STEP. What is in the BUFFER need not be known, but how many PACKETS are. */
    private static final class Encoder {
        final Packets packets = new Packets();
        private final Shadow shadow = new Shadow();
        private Code code;
        private Run run;
        private int most;
        private int deep;
        private int now;
        private int waiting;
        private int map;
        private int mapSize;
        private int last;
        private int counted;
        private boolean on;
        private boolean blind;
        int dropped;
        int fullest;

        void encode(Code told, Run made, int bits, int shadowDepth) {
            code = told;
            run = made;
            most = bits;
            deep = shadowDepth;
            waiting = 0;
            last = 0;
            counted = 0;
            on = false;
            blind = false;
            dropped = 0;
            fullest = 0;
            packets.clear();
            shadow.clear();
            clearMap();
            for (int k = 0; k < made.steps; k++) {
                now = k;
                letOneOut();
                seeAgain();
                if (!blind) {
                    turn(made.at(k));
                }
                // What is DROPPED turns it off, so that nothing more is done at this STEP.
                if (on) {
                    tellWay(made.at(k), made.behind(k));
                }
                if (on && mapSize == most) {
                    putMap();
                }
                if (on) {
                    counted++;
                }
            }
            now = made.steps;
            if (on && putMap()) {
                put(END, counted, 0);
            }
        }

        private void letOneOut() {
            int rate = code == null ? 0 : code.rule(RATE);
            if (now > 0 && rate > 0 && now % rate == 0 && waiting > 0) {
                waiting--;
            }
        }

        private void seeAgain() {
            if (blind && waiting == 0) {
                put(OVER, 0, 0);
                blind = false;
                on = false;
            }
        }

        private void turn(int address) {
            if (code == null || !code.traces(address)) {
                if (on && putMap() && put(OFF, counted, 0)) {
                    on = false;
                }
                return;
            }
            if (on && counted < code.rule(PERIOD)) {
                return;
            }
            int since = on ? counted : 0;
            if (putMap() && put(SYNC, address, since)) {
                on = true;
                counted = 0;
                last = address;
                shadow.clear();
            }
        }

        private void tellWay(int address, int behind) {
            int kind = code == null ? NONE : code.kindAt(address);
            if (kind == CALL) {
                shadow.push(address + 1, deep);
            }
            if (behind == NONE) {
                return;
            }
            if (kind == IF) {
                mapBit(run != null && run.isTaken(now) ? 1 : 0);
            } else if (kind == RET && shadow.pop() == behind) {
                mapBit(1);
            } else if (kind == RET || kind == VIA) {
                int digits = behind / 8 == last / 8 ? 1 : 2;
                if (putMap() && put(GOTO, behind, digits)) {
                    last = behind;
                }
            }
        }

        private void mapBit(int bit) {
            map |= bit << mapSize;
            mapSize++;
        }

        private void clearMap() {
            map = 0;
            mapSize = 0;
        }

        /** True unless the MAP was DROPPED. */
        private boolean putMap() {
            if (mapSize == 0) {
                return true;
            }
            boolean came = put(MAP, map, mapSize);
            clearMap();
            return came;
        }

        /** False if it was DROPPED. */
        private boolean put(int kind, int value, int extra) {
            if (waiting >= (code == null ? 0 : code.rule(ROOM))) {
                dropped++;
                clearMap();
                blind = true;
                on = false;
                return false;
            }
            packets.add(kind, value, extra, now);
            waiting++;
            fullest = Math.max(fullest, waiting);
            return true;
        }
    }

    /**
     * What is rebuilt if no PACKET is lost, and by which of them: behind a SYNC a PACKET that is understood at all
     * tells the same STEPS whatever was lost ahead of that SYNC.
     */
    private static final class Walk {
        private final int[] addresses = new int[STEPS];
        private final int[] numbers = new int[STEPS];
        /** How many STEPS were rebuilt behind each PACKET. */
        private final int[] upTo = new int[PACKETS];
        private final Shadow shadow = new Shadow();
        private Code code;
        Packets packets;
        int size;
        private int here;
        private int counted;
        private int number;

        void go(Code told, Packets sent) {
            code = told;
            packets = sent;
            size = 0;
            here = NONE;
            if (told == null || sent == null) {
                return;
            }
            for (int k = 0; k < sent.size && k < PACKETS; k++) {
                int kind = sent.kind(k);
                if (kind == SYNC) {
                    goToCount(sent.extra(k));
                    begin(sent.value(k), sent.stepOf(k));
                } else if (kind == MAP) {
                    hearMap(sent.value(k), sent.extra(k));
                } else if (kind == GOTO) {
                    hearGoto(sent.value(k));
                } else {
                    // OVER has no COUNT, so that it goes nowhere.
                    goToCount(sent.value(k));
                    here = NONE;
                }
                upTo[k] = size;
            }
        }

        private void begin(int address, int step) {
            here = address;
            number = step;
            counted = 0;
            shadow.clear();
        }

        private void hearMap(int bits, int most) {
            int heard = 0;
            for (int i = 0; i < STEPS && heard < most && canGoOn(); i++) {
                int kind = code.kindAt(here);
                if (kind == IF) {
                    goOn((bits >> heard & 1) == 1 ? code.targetAt(here) : here + 1);
                    heard++;
                } else if (kind == RET) {
                    goOn(shadow.pop());
                    heard++;
                } else {
                    goOn(straightOn());
                }
            }
        }

        private void hearGoto(int address) {
            for (int i = 0; i < STEPS && canGoOn(); i++) {
                int kind = code.kindAt(here);
                if (kind == RET) {
                    shadow.pop();
                }
                if (kind == RET || kind == VIA) {
                    goOn(address);
                    return;
                }
                goOn(straightOn());
            }
        }

        private void goToCount(int count) {
            for (int i = 0; i < STEPS && counted < count && canGoOn(); i++) {
                goOn(straightOn());
            }
        }

        /** False, too, if it knows no ADDRESS. */
        private boolean canGoOn() {
            return code != null && code.has(here) && size >= 0 && size < STEPS;
        }

        private void goOn(int address) {
            if (size >= 0 && size < STEPS) {
                addresses[size] = here;
                numbers[size] = number;
                size++;
            }
            here = address;
            number++;
            counted++;
        }

        /** The ADDRESS behind, where no PACKET has to tell it; NONE where one had to. */
        private int straightOn() {
            int kind = code.kindAt(here);
            if (kind == PLAIN) {
                return here + 1;
            }
            if (kind == CALL) {
                shadow.push(here + 1, code.rule(DEEP));
            }
            return kind == CALL || kind == JUMP ? code.targetAt(here) : NONE;
        }

        int address(int i) {
            return i < 0 || i >= size || i >= STEPS ? NONE : addresses[i];
        }

        /** Which STEP of the RUN the i-th is that is rebuilt. */
        int stepAt(int i) {
            return i < 0 || i >= size || i >= STEPS ? NONE : numbers[i];
        }

        int upTo(int k) {
            return k < 0 || k >= PACKETS ? 0 : upTo[k];
        }
    }

    /** What is rebuilt without the PACKETS that are lost: pieces of what is without a loss. */
    private static final class Pieces {
        private final int[] addresses = new int[STEPS];
        private final int[] lengths = new int[PACKETS];
        int size;
        private int pieces;

        /** Without the PACKETS of a LOSS (if any), and without one more (if not NONE). */
        void sift(Walk walk, Row losses, int alone) {
            size = 0;
            pieces = 0;
            Packets packets = walk.packets;
            if (packets == null) {
                return;
            }
            boolean knows = false;
            for (int k = 0; k < packets.size && k < PACKETS; k++) {
                int kind = packets.kind(k);
                if (k == alone || losses != null && losses.holds(k)) {
                    knows = false;
                } else if (kind == SYNC && !knows) {
                    begin();
                    knows = true;
                } else if (knows) {
                    take(walk, k == 0 ? 0 : walk.upTo(k - 1), walk.upTo(k));
                    knows = kind == SYNC || kind == MAP || kind == GOTO;
                }
            }
        }

        private void begin() {
            if (pieces >= 0 && pieces < PACKETS) {
                lengths[pieces] = 0;
                pieces++;
            }
        }

        private void take(Walk walk, int from, int to) {
            for (int i = from; i < to && size < STEPS; i++) {
                addresses[size] = walk.address(i);
                size++;
                if (pieces > 0 && pieces <= PACKETS) {
                    lengths[pieces - 1]++;
                }
            }
        }

        int address(int i) {
            return i < 0 || i >= size || i >= STEPS ? NONE : addresses[i];
        }

        int tell(int what) {
            if (what == 0) {
                return size;
            }
            if (what == 1) {
                return pieces;
            }
            if (what >= 1000) {
                return address(what - 1000);
            }
            int piece = what - 100;
            return what < 100 || piece >= pieces || piece >= PACKETS ? NONE : lengths[piece];
        }
    }

    /** Losses of one PACKET, or of none, by which a LOG can be explained. */
    private static final class Fits {
        private static final int LOSSES_OF_ONE = PACKETS + 1;

        private final int[] losses = new int[LOSSES_OF_ONE];
        /** How often each ADDRESS is rebuilt, of each that fits. */
        private final int[] often = new int[LOSSES_OF_ONE * ADDRESSES];
        private final int[] groups = new int[STEPS + 1];
        int size;

        void find(Walk walk, Pieces pieces, Row facts) {
            size = 0;
            if (walk.packets == null) {
                return;
            }
            for (int k = NONE; k < walk.packets.size; k++) {
                pieces.sift(walk, null, k);
                add(k, pieces, facts);
            }
        }

        private void add(int loss, Pieces pieces, Row facts) {
            if (size < 0 || size >= LOSSES_OF_ONE) {
                return;
            }
            int row = size * ADDRESSES;
            for (int a = 0; a < ADDRESSES; a++) {
                often[row + a] = 0;
            }
            for (int i = 0; i < pieces.size; i++) {
                int address = pieces.address(i);
                if (address >= 0 && address < ADDRESSES) {
                    often[row + address]++;
                }
            }
            if (agree(facts)) {
                losses[size] = loss;
                size++;
            }
        }

        /** All FACTS are as the row behind those that fit has it. */
        private boolean agree(Row facts) {
            for (int k = 0; k < facts.size; k++) {
                if (oftenOf(size, facts.value(k)) != facts.often(k)) {
                    return false;
                }
            }
            return true;
        }

        private int oftenOf(int k, int address) {
            if (k < 0 || k >= LOSSES_OF_ONE || address < 0 || address >= ADDRESSES) {
                return 0;
            }
            return often[k * ADDRESSES + address];
        }

        int lossAt(int k) {
            return k < 0 || k >= size || k >= LOSSES_OF_ONE ? ABSENT : losses[k];
        }

        /** ASK: NONE if nothing fits, or there are no INSTRUCTIONS. */
        int ask(Code code) {
            int best = NONE;
            int least = FAR_ABOVE;
            for (int a = 0; a < ADDRESSES && size > 0 && code != null && code.has(a); a++) {
                int greatest = greatestGroup(a);
                if (greatest < least) {
                    least = greatest;
                    best = a;
                }
            }
            return best;
        }

        /** The most of all that fit by which an ADDRESS is rebuilt as often. */
        private int greatestGroup(int address) {
            for (int i = 0; i <= STEPS; i++) {
                groups[i] = 0;
            }
            int greatest = 0;
            for (int k = 0; k < size; k++) {
                int times = oftenOf(k, address);
                if (times >= 0 && times <= STEPS) {
                    groups[times]++;
                    greatest = Math.max(greatest, groups[times]);
                }
            }
            return greatest;
        }
    }
}
