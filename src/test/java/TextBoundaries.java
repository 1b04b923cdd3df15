/** The boundary cases of texts: the tape, FAULTS, what is told of CODES, DRIVES, LOSSES, LOGS, images. */
final class TextBoundaries {
    private static final int NONE = TracePackets.NONE;
    private static final int CODE = 0;
    private static final int DRIVE = 1;
    private static final int LOSS = 2;
    private static final int LOG = 3;
    private static final int LEAST = Integer.MIN_VALUE;
    private static final int GREATEST = Integer.MAX_VALUE;
    /** Four blanks. */
    private static final int BLANKS = 0x20202020;

    private TextBoundaries() { }

    static void all() {
        instructionsAndRules();
        choicesPacketsFacts();
        tokensAndTexts();
        faults();
        tapeAndText();
        answersOfTexts();
        images();
    }

    private static void due(String call, long want, long got) {
        Checks.due(call, want, got);
    }

    private static String many(String part, int times) {
        return Checks.many(part, times);
    }

    /** A text alone in a new object: what FAULT it has, and where (0, NONE: none). */
    private static void dueFault(int sort, String text, int fault, int place) {
        TracePackets x = new TracePackets();
        String call = "sort " + sort + " '" + text.replace("\n", "\\n") + "'";
        due("text of " + call, fault == 0 ? 0 : NONE, Checks.tell(x, sort, text));
        due("fault of " + call, fault, x.fault(0));
        due("place of " + call, place, x.fault(1));
        due("count behind " + call, fault == 0 ? 1 : 0, x.count(sort));
    }

    private static void dueTaken(int sort, String text) {
        dueFault(sort, text, 0, NONE);
    }

    /** A rule's value at first, its least and its most, and what is FAULT 2 beyond them (-1: no NUMBER is). */
    private static void dueRule(String word, int what, int atFirst, int least, int most) {
        TracePackets x = new TracePackets();
        Checks.tell(x, CODE, "");
        due(word + " at first", atFirst, x.code(0, what));
        for (int value : new int[] {least, most}) {
            due(word + " " + value, 0, Checks.tellAt(x, CODE, 0, word + " " + value + ";"));
            due(word + " told", value, x.code(0, what));
        }
        if (least > 0) {
            dueFault(CODE, word + " " + (least - 1) + ";", 2, word.length() + 1);
        }
        if (most < 99) {
            dueFault(CODE, word + " " + (most + 1) + ";", 2, word.length() + 1);
            dueFault(CODE, word + " 99;", 2, word.length() + 1);
        }
    }

    // Term 1

    private static void instructionsAndRules() {
        Sentences.holds("Term 1, Promise 6",
                "A CODE has INSTRUCTIONS, at most 40, at ADDRESSES from 0 on: 0 plain, 1 if, 2 jump, 3 call"
                + " (of these a TARGET, an ADDRESS), 4 ret, 5 via, 6 stop;", () -> {
            TracePackets x = new TracePackets();
            Checks.tell(x, CODE, "");
            due("none", 0, x.code(0, 0));
            due("none at 0", -2, x.code(0, 100));
            Checks.tellAt(x, CODE, 0, "plain;if 39;jump 0;call 38;ret;via;stop;" + many("plain;", 32) + "via;");
            due("as many as may be", 40, x.code(0, 0));
            int[] kinds = {0, 1, 2, 3, 4, 5, 6, 0};
            int[] targets = {NONE, 39, 0, 38, NONE, NONE, NONE, NONE};
            for (int a = 0; a < 8; a++) {
                due("kind at " + a, kinds[a], x.code(0, 100 + a));
                due("target at " + a, targets[a], x.code(0, 200 + a));
            }
            due("the last one", 5, x.code(0, 139));
            due("none behind it", -2, x.code(0, 140));
            dueFault(CODE, many("via;", 41), 3, 160);
        });
        Sentences.holds("Term 1, Promise 6", "each of a MODE, 0 or 1;", () -> {
            TracePackets x = new TracePackets();
            Checks.tell(x, CODE, "plain;mode 1;plain;mode 0;plain;");
            for (int a = 0; a < 3; a++) {
                due("mode at " + a, a % 2, x.code(0, 300 + a));
            }
            dueFault(CODE, "mode 2;", 2, 5);
            dueFault(CODE, "mode 99;", 2, 5);
        });
        Sentences.holds("Term 1, Promise 6", "BITS, 1 .. 9 (6 at first),", () -> dueRule("bits", 1, 6, 1, 9));
        Sentences.holds("Term 1, Promise 6", "DEEP, 0 .. 4 (2),", () -> dueRule("deep", 2, 2, 0, 4));
        Sentences.holds("Term 1, Promise 6", "PERIOD, 2 .. 99 (20),", () -> dueRule("sync", 3, 20, 2, 99));
        Sentences.holds("Term 1, Promise 6", "FROM, TO, ADDRESSES (0, 39),", () -> {
            dueRule("from", 4, 0, 0, 39);
            dueRule("to", 5, 39, 0, 39);
        });
        Sentences.holds("Term 1, Promise 6", "ONLY, 0 .. 2 (2),", () -> dueRule("only", 6, 2, 0, 2));
        Sentences.holds("Term 1, Promise 6", "ROOM, 3 .. 9 (9),", () -> dueRule("room", 7, 9, 3, 9));
        Sentences.holds("Term 1, Promise 6", "RATE, 1 .. 9 (1).", () -> dueRule("rate", 8, 1, 1, 9));
        Sentences.holds("Term 1, Promise 15",
                "An ADDRESS is two digits of base 8, the high one and the low one.", () -> {
            // ahead of each boundary of eight and behind it: LAST, the ADDRESS, its digits
            int[][] ways = {{0, 7, 1}, {0, 8, 2}, {7, 0, 1}, {7, 8, 2}, {8, 15, 1}, {15, 16, 2}, {24, 23, 2},
                {31, 32, 2}, {32, 39, 1}, {39, 32, 1}, {39, 31, 2}, {39, 0, 2}};
            for (int[] way : ways) {
                TracePackets x = Checks.told(many("via;", 40), "go " + way[0] + ";go " + way[1] + ";");
                due("address from " + way[0], way[1], x.packet(0, 0, 2, 1));
                due("digits from " + way[0] + " to " + way[1], way[2], x.packet(0, 0, 2, 2));
            }
        });
    }

    private static void choicesPacketsFacts() {
        Sentences.holds("Term 1, Promise 7",
                "A DRIVE has CHOICES, at most 60, from 0 on: yes, no, or to an ADDRESS.", () -> {
            TracePackets x = new TracePackets();
            Checks.tell(x, DRIVE, "");
            due("none", 0, x.choice(0, NONE));
            Checks.tellAt(x, DRIVE, 0, "y;n;go 0;" + many("n;", 56) + "go 39;");
            due("as many as may be", 60, x.choice(0, NONE));
            due("the first", 101, x.choice(0, 0));
            due("the second", 100, x.choice(0, 1));
            due("the third", 0, x.choice(0, 2));
            due("the last", 39, x.choice(0, 59));
            dueFault(DRIVE, many("n;", 61), 3, 120);
        });
        Sentences.holds("Term 1, Promise 8", "A LOSS has PACKETS (numbers, 0 .. 99), at most 12.", () -> {
            TracePackets x = new TracePackets();
            Checks.tell(x, LOSS, "");
            due("none", 0, x.loss(0, NONE));
            Checks.tellAt(x, LOSS, 0, "lose 0;lose 99;");
            due("the least", 0, x.loss(0, 0));
            due("the greatest", 99, x.loss(0, 1));
            StringBuilder text = new StringBuilder();
            for (int k = 0; k < 12; k++) {
                text.append("lose ").append(10 + k).append(';');
            }
            due("twelve", 0, Checks.tellAt(x, LOSS, 0, text.toString()));
            due("as many as may be", 12, x.loss(0, NONE));
            due("the last", 21, x.loss(0, 11));
            dueFault(LOSS, text + "lose 22;", 3, 96);
        });
        Sentences.holds("Term 1, Promise 22",
                "A LOG has FACTS, at most 8, from 0 on: an ADDRESS was seen so often, 0 .. 99.", () -> {
            TracePackets x = new TracePackets();
            Checks.tell(x, LOG, "");
            due("none", 0, x.fact(0, NONE, 0));
            Checks.tellAt(x, LOG, 0, "saw 0 99;" + many("saw 5 5;", 6) + "saw 39 0;");
            due("as many as may be", 8, x.fact(0, NONE, 0));
            due("the first", 0, x.fact(0, 0, 0));
            due("the first, how often", 99, x.fact(0, 0, 1));
            due("the last", 39, x.fact(0, 7, 0));
            due("the last, how often", 0, x.fact(0, 7, 1));
            dueFault(LOG, many("saw 5 5;", 9), 3, 64);
        });
        Sentences.holds("Term 1, Promise 25",
                "CODES, at most 2 (sort 0), DRIVES, at most 2 (1), LOSSES, at most 2 (2), LOGS, at most 2"
                + " (3), from 0 on.", () -> {
            TracePackets x = new TracePackets();
            String[] texts = {"stop;", "y;", "lose 1;", "saw 1 1;"};
            for (int sort = 0; sort < 4; sort++) {
                for (int other = 0; other < 4; other++) {
                    due("sort " + sort + " takes '" + texts[other] + "'", sort == other ? 0 : NONE,
                            Checks.tell(new TracePackets(), sort, texts[other]));
                }
                due("the first", 0, Checks.tell(x, sort, texts[sort]));
                due("the second", 1, Checks.tell(x, sort, texts[sort]));
                due("a third", -2, Checks.tell(x, sort, texts[sort]));
                due("two", 2, x.count(sort));
            }
        });
    }

    private static void tokensAndTexts() {
        Sentences.holds("Term 1, Promise 2", "THE TAPE has at most 600 bytes.", () -> {
            TracePackets x = new TracePackets();
            // the last of 600 bytes is read, too
            String text = many("y;", 59) + many(" ", 600 - 120) + "n;";
            due("a text of 600 bytes", 0, Checks.tell(x, DRIVE, text));
            due("its choices", 60, x.choice(0, NONE));
            due("the last one", 100, x.choice(0, 59));
            dueFault(DRIVE, many(" ", 599) + "!", 1, 599);
            dueFault(DRIVE, many(" ", 599) + "y", 1, 600);
        });
        Sentences.holds("Term 1, Promise 5",
                "TOKENS, as long as they go, blanks (10, 32) between: words, rows of letters a .. z; NUMBERS,"
                + " 1 or 2 digits; ; one byte.", () -> {
            dueTaken(CODE, "\n \nif\n\n0 \n;stop;\n");
            dueTaken(CODE, "if0;stop;");
            dueTaken(DRIVE, "go7;go07;go 00;go 39;");
            // a word, a number go on as long as they can
            dueFault(DRIVE, "yy;", 1, 0);
            dueFault(DRIVE, "y y;", 1, 2);
            dueFault(DRIVE, "go 1 2;", 1, 5);
            dueFault(DRIVE, "go 001;", 1, 3);
            dueFault(DRIVE, "g o 1;", 1, 0);
            dueFault(DRIVE, "y;;", 1, 2);
            // each byte beside the letters, the digits, the semicolon and the blanks
            for (int sign = 0; sign < 256; sign++) {
                boolean blank = sign == 10 || sign == 32;
                dueFault(DRIVE, "y;" + (char) sign + "y;", blank ? 0 : 1, blank ? NONE : 2);
                dueFault(DRIVE, "y" + (char) sign + ";", blank ? 0 : 1,
                        blank ? NONE : sign >= 'a' && sign <= 'z' ? 0 : sign == ';' ? 2 : 1);
            }
        });
        Sentences.holds("Term 1, Promise 4",
                "A CODE's text: {('plain' | 'ret' | 'via' | 'stop' | ('if' | 'jump' | 'call' | 'mode' |"
                + " 'bits' | 'deep' | 'sync' | 'from' | 'to' | 'only' | 'room' | 'rate') NUMBER) ';'} (if,"
                + " jump, call: the TARGET, 0 .. 39; mode: MODE of all INSTRUCTIONS told behind it, 0 at first;"
                + " sync: the PERIOD).", () -> {
            dueTaken(CODE, "");
            dueTaken(CODE, " ");
            for (String word : new String[] {"plain", "ret", "via", "stop"}) {
                dueTaken(CODE, word + ";");
                dueFault(CODE, word + " 1;", 1, word.length() + 1);
                dueFault(CODE, word, 1, word.length());
                dueFault(CODE, word + "x;", 1, 0);
                dueFault(CODE, word.substring(1) + ";", 1, 0);
                dueFault(CODE, word.substring(0, word.length() - 1) + ";", 1, 0);
            }
            String[] words = {"if", "jump", "call", "mode", "bits", "deep", "sync", "from", "to", "only", "room", "rate"};
            int[] numbers = {0, 0, 0, 0, 6, 2, 20, 0, 39, 2, 9, 1};
            for (int i = 0; i < words.length; i++) {
                int length = words[i].length();
                dueTaken(CODE, "stop;" + words[i] + " " + numbers[i] + ";");
                dueFault(CODE, words[i] + ";", 1, length);
                dueFault(CODE, words[i] + " ", 1, length + 1);
                dueFault(CODE, words[i] + " stop;", 1, length + 1);
                dueFault(CODE, words[i] + " 3 3;", 1, length + 3);
                dueFault(CODE, words[i] + " 3", 1, length + 2);
                dueFault(CODE, words[i] + "x 3;", 1, 0);
            }
            for (String word : new String[] {"if", "jump", "call"}) {
                dueTaken(CODE, word + " 0;");
                dueTaken(CODE, word + " 39;" + many("via;", 39));
                dueFault(CODE, word + " 40;" + many("via;", 39), 2, word.length() + 1);
            }
            TracePackets x = new TracePackets();
            Checks.tell(x, CODE, "stop;mode 1;mode 0;mode 1;stop;stop;mode 0;mode 1;");
            int[] modes = {0, 1, 1};
            for (int a = 0; a < 3; a++) {
                due("mode at " + a, modes[a], x.code(0, 300 + a));
            }
            Checks.tellAt(x, CODE, 0, "stop;");
            due("mode 0 at first in the next text, too", 0, x.code(0, 300));
        });
        Sentences.holds("Term 1, Promise 4",
                "A DRIVE's text: {('y' | 'n' | 'go' NUMBER) ';'} (an ADDRESS, 0 .. 39).", () -> {
            dueTaken(DRIVE, "");
            dueTaken(DRIVE, "y;n;go 0;go 39;");
            dueFault(DRIVE, "go 40;", 2, 3);
            dueFault(DRIVE, "go 99;", 2, 3);
            dueFault(DRIVE, "go 100;", 1, 3);
            dueFault(DRIVE, "go;", 1, 2);
            dueFault(DRIVE, "y 0;", 1, 2);
            dueFault(DRIVE, "n", 1, 1);
            dueFault(DRIVE, "o 1;", 1, 0);
        });
        Sentences.holds("Term 1, Promise 4", "A LOSS's text: {'lose' NUMBER ';'}.", () -> {
            dueTaken(LOSS, "");
            dueTaken(LOSS, "lose 0;lose 99;");
            dueFault(LOSS, "lose 100;", 1, 5);
            dueFault(LOSS, "lose;", 1, 4);
            dueFault(LOSS, "lose 1 1;", 1, 7);
            dueFault(LOSS, "los 1;", 1, 0);
            dueFault(LOSS, "loser 1;", 1, 0);
        });
        Sentences.holds("Term 1, Promise 4",
                "A LOG's text: {'saw' NUMBER NUMBER ';'} (an ADDRESS, 0 .. 39, how often).", () -> {
            dueTaken(LOG, "");
            dueTaken(LOG, "saw 0 0;saw 39 99;");
            dueFault(LOG, "saw 40 0;", 2, 4);
            dueFault(LOG, "saw 99 99;", 2, 4);
            dueFault(LOG, "saw 0 100;", 1, 6);
            dueFault(LOG, "saw 0;", 1, 5);
            dueFault(LOG, "saw;", 1, 3);
            dueFault(LOG, "saw 0 0 0;", 1, 8);
            dueFault(LOG, "saw 0 0", 1, 7);
        });
        Sentences.holds("Term 1, Promise 4",
                "Later ones strike (bits, deep, sync, from, to, only, room, rate), but all others, which are"
                + " further ones (lose of one PACKET twice is one).", () -> {
            TracePackets x = new TracePackets();
            Checks.tell(x, CODE, "bits 9;deep 4;sync 99;from 39;to 0;only 0;room 3;rate 9;plain;plain;"
                    + "bits 1;deep 0;sync 2;from 0;to 39;only 2;room 9;rate 1;plain;");
            int[] rules = {1, 0, 2, 0, 39, 2, 9, 1};
            for (int what = 1; what <= 8; what++) {
                due("rule " + what, rules[what - 1], x.code(0, what));
            }
            due("further instructions", 3, x.code(0, 0));
            Checks.tell(x, DRIVE, "go 1;go 1;y;y;");
            due("further choices", 4, x.choice(0, NONE));
            Checks.tell(x, LOG, "saw 1 2;saw 1 2;saw 1 3;");
            due("further facts", 3, x.fact(0, NONE, 0));
            Checks.tell(x, LOSS, "lose 7;lose 7;lose 0;lose 07;lose 00;");
            due("lost once", 2, x.loss(0, NONE));
        });
    }

    private static void faults() {
        Sentences.holds("Term 1, Promise 5",
                "FAULTS of all, with places (a token's first byte; the end's): 1 the first byte or token with"
                + " which no text goes on (a longer row of digits is no token).", () -> {
            dueFault(CODE, "!", 1, 0);
            dueFault(CODE, "  stop;  plan;", 1, 9);
            dueFault(CODE, "stop", 1, 4);
            dueFault(CODE, "stop \n ", 1, 7);
            dueFault(CODE, "if  000;", 1, 4);
            dueFault(CODE, "if  0000000;", 1, 4);
            dueFault(CODE, "000", 1, 0);
            // ahead of all other FAULTS, though those are told ahead of it
            dueFault(CODE, "if 40;" + many("stop;", 40) + "!", 1, 206);
            dueFault(CODE, "if 39;!", 1, 6);
            // the first of two
            dueFault(CODE, "stop;stop!!", 1, 9);
            dueFault(CODE, "if if if", 1, 3);
        });
        Sentences.holds("Term 1, Promise 5",
                "If there is none, the first by place, of one place the least: 2 a NUMBER that can't be (as"
                + " above; a line with such a NUMBER tells its INSTRUCTION, CHOICE, FACT all the same);", () -> {
            dueFault(CODE, "bits 0;bits 10;", 2, 5);
            dueFault(CODE, "bits 9;bits 10;", 2, 12);
            dueFault(CODE, "bits 10;" + many("via;", 41), 2, 5);
            dueFault(CODE, many("via;", 41) + "bits 10;", 3, 160);
            dueFault(CODE, many("via;", 40) + "bits 10;via;", 2, 165);
            // the line of the wrong NUMBER is itself the one too many: its first token comes first
            dueFault(CODE, many("via;", 40) + "if 40;", 3, 160);
            dueFault(DRIVE, many("y;", 60) + "go 40;", 3, 120);
            dueFault(LOG, many("saw 0 0;", 8) + "saw 40 0;", 3, 64);
            // the line of the wrong NUMBER counts: what comes behind it is not the first by place
            dueFault(CODE, many("via;", 39) + "if 40;via;", 2, 159);
            dueFault(DRIVE, many("y;", 59) + "go 40;y;", 2, 121);
            dueFault(LOG, many("saw 0 0;", 7) + "saw 40 0;saw 0 0;", 2, 60);
            // a TARGET that can't be is no FAULT 4
            dueFault(CODE, "if 39;if 40;", 2, 9);
        });
        Sentences.holds("Term 1, Promise 5",
                "3 a 41st INSTRUCTION, a 61st CHOICE, a 13th lose, a 9th FACT, at its first token.", () -> {
            String[] words = {"plain;", "if 0;", "jump 0;", "call 0;", "ret;", "via;", "stop;"};
            for (String word : words) {
                dueTaken(CODE, many("via;", 39) + word);
                dueFault(CODE, many("via;", 40) + "  " + word, 3, 162);
            }
            // what is no INSTRUCTION is none too many
            dueTaken(CODE, many("via;", 40) + "mode 1;bits 1;deep 1;sync 2;from 1;to 1;only 1;room 3;rate 1;");
            for (String word : new String[] {"y;", "n;", "go 0;"}) {
                dueTaken(DRIVE, many("y;", 59) + word);
                dueFault(DRIVE, many("y;", 60) + "\n" + word, 3, 121);
            }
            dueTaken(LOSS, many("lose 5;", 12));
            dueFault(LOSS, many("lose 5;", 12) + " lose 5;", 3, 85);
            dueTaken(LOG, many("saw 0 0;", 8));
            dueFault(LOG, many("saw 0 0;", 8) + " saw 1 1;", 3, 65);
            dueFault(LOG, many("saw 0 0;", 10), 3, 64);
        });
        Sentences.holds("Term 1, Promise 5",
                "If there is none of these, at the end's place, of a CODE: 4 a TARGET that is no ADDRESS of"
                + " an INSTRUCTION.", () -> {
            for (String word : new String[] {"if", "jump", "call"}) {
                int line = word.length() + 3;
                dueFault(CODE, word + " 1;", 4, line);
                dueFault(CODE, word + " 1; \n", 4, line + 2);
                dueFault(CODE, word + " 1;bits 1;", 4, line + 7);
                dueTaken(CODE, word + " 1;via;");
                dueTaken(CODE, word + " 0;");
                dueFault(CODE, word + " 39;" + many("via;", 38), 4, line + 1 + 152);
                dueFault(CODE, word + " 39;bits 0;", 2, line + 1 + 5);
            }
            // a DRIVE, a LOG may name an ADDRESS without an INSTRUCTION
            dueTaken(DRIVE, "go 39;");
            dueTaken(LOG, "saw 39 1;");
        });
    }

    // Promises 1 to 5, 25

    private static void tapeAndText() {
        Sentences.holds("Constants", "There is none.", () -> due("NONE", -1, TracePackets.NONE));
        Sentences.holds("Promise 1", "No CODES, DRIVES, LOSSES, LOGS; no images.", () -> {
            TracePackets x = new TracePackets();
            for (int sort = 0; sort < 4; sort++) {
                due("count(" + sort + ")", 0, x.count(sort));
            }
            due("code", -2, x.code(0, 0));
            due("choice", -2, x.choice(0, NONE));
            due("loss", -2, x.loss(0, NONE));
            due("fact", -2, x.fact(0, NONE, 0));
            due("the tape is empty", NONE, x.end(1));
            due("no fault", 0, x.fault(0));
            due("no place", NONE, x.fault(1));
            for (int k = 0; k < 3; k++) {
                Checks.due("again(" + k + ")", false, x.again(k));
            }
            // one object's texts are not another's
            Checks.tell(x, CODE, "stop;");
            x.image(0);
            TracePackets y = new TracePackets();
            due("another's codes", 0, y.count(CODE));
            Checks.due("another's image", false, y.again(0));
        });
        Sentences.holds("Promise 2",
                "The tape: twenty bytes come behind it, of each number the highest first: how many it has.", () -> {
            TracePackets x = new TracePackets();
            due("onto an empty tape", 20, x.feed(0x793b6e3b, 0x676f2033, 0x393b793b, 0x0a0a0a0a, 0x6e3b676f));
            due("behind it", 40, x.feed(0x20300a3b, BLANKS, BLANKS, BLANKS, 0x2020793b));
            due("as a text", 0, x.text(DRIVE, NONE));
            int[] choices = {101, 100, 39, 101, 100, 0, 101};
            due("how many", choices.length, x.choice(0, NONE));
            for (int k = 0; k < choices.length; k++) {
                due("choice " + k, choices[k], x.choice(0, k));
            }
            // bytes above 127, numbers below 0: no letter, no blank, no digit is read out of them
            int[] strange = {0xf93b2020, 0xa0202020, 0xbb202020, 0x8a202020, 0xff202020, 0x80202020, 0};
            for (int four : strange) {
                due("feed", 20, x.feed(BLANKS, four, BLANKS, BLANKS, BLANKS));
                due("text of " + four, NONE, x.text(DRIVE, NONE));
                due("place of " + four, 4, x.fault(1));
            }
        });
        Sentences.holds("Promise 2", "NONE, and nothing comes, if there would be more than 600.", () -> {
            TracePackets x = new TracePackets();
            for (int i = 1; i <= 30; i++) {
                due("feed", 20 * i, x.feed(BLANKS, BLANKS, BLANKS, BLANKS, BLANKS));
            }
            due("on a full tape", NONE, x.feed(0, 0, 0, 0, 0));
            due("still on a full tape", NONE, x.feed(0, 0, 0, 0, 0));
            due("nothing came", NONE, x.end(601));
            due("not even in part", 0, x.text(DRIVE, NONE));
            for (int length = 581; length < 600; length++) {
                Checks.tape(x, many(" ", 600));
                x.end(length);
                due("feed to " + (length + 20), NONE, x.feed(0, 0, 0, 0, 0));
                due("nothing came", NONE, x.end(length + 1));
                due("nothing came", length, x.end(length));
            }
            due("cut", 580, x.end(580));
            due("feed to 600", 600, x.feed(BLANKS, BLANKS, BLANKS, BLANKS, 0x2020793b));
            due("it came", 1, x.text(DRIVE, NONE));
            due("it came", 1, x.choice(1, NONE));
        });
        Sentences.holds("Promise 3", "The tape has its first n bytes alone: n.", () -> {
            TracePackets x = new TracePackets();
            due("nothing of nothing", 0, x.end(0));
            x.feed(0x793b793b, 0x793b793b, 0x793b793b, 0x793b793b, 0x793b793b);
            due("all", 20, x.end(20));
            due("the first 5", 5, x.end(5));
            due("a feed comes behind the 5", 25, x.feed(0x3b202020, BLANKS, BLANKS, BLANKS, 0x206e3b3b));
            due("all but the last", 24, x.end(24));
            due("as a text", 0, x.text(DRIVE, NONE));
            due("choices", 4, x.choice(0, NONE));
            due("the last", 100, x.choice(0, 3));
            x.feed(0, 0, 0, 0, 0);
            due("none of them", 0, x.end(0));
            due("an empty text", 1, x.text(DRIVE, NONE));
            due("without choices", 0, x.choice(1, NONE));
        });
        Sentences.holds("Promise 3", "NONE if it has not so many, or n is below 0.", () -> {
            TracePackets x = new TracePackets();
            due("1 of none", NONE, x.end(1));
            due("-1 of none", NONE, x.end(-1));
            Checks.tape(x, "y;n;");
            for (int n : new int[] {5, 20, 601, GREATEST, -1, -4, LEAST}) {
                due("end(" + n + ")", NONE, x.end(n));
            }
            due("it is as it was", 0, x.text(DRIVE, NONE));
            due("it is as it was", 2, x.choice(0, NONE));
            due("1 of a tape that was taken", NONE, x.end(1));
        });
        Sentences.holds("Promise 4",
                "The tape is taken (and is empty then) as a text of a sort, a further one (at NONE), or in"
                + " the place of one: its number.", () -> {
            String[] texts = {"stop;", "y;", "lose 1;", "saw 1 1;"};
            for (int sort = 0; sort < 4; sort++) {
                TracePackets x = new TracePackets();
                due("a further one of an empty tape", 0, x.text(sort, NONE));
                due("a further one", 1, Checks.tell(x, sort, texts[sort]));
                due("the tape is empty then", NONE, x.end(1));
                due("in the place of the first", 0, Checks.tellAt(x, sort, 0, texts[sort]));
                due("in the place of the last", 1, x.text(sort, 1));
                due("as many as were", 2, x.count(sort));
                due("the first has what was told", 1, sizeOf(x, sort, 0));
                due("the last has nothing", 0, sizeOf(x, sort, 1));
            }
        });
        Sentences.holds("Promise 4", "NONE: a FAULT.", () -> {
            String[] texts = {"stop;", "y;", "lose 1;", "saw 1 1;"};
            for (int sort = 0; sort < 4; sort++) {
                TracePackets x = new TracePackets();
                due("a further one", NONE, Checks.tell(x, sort, texts[sort] + texts[sort] + "!"));
                due("none came", 0, x.count(sort));
                due("the tape is empty", NONE, x.end(1));
                Checks.tell(x, sort, texts[sort]);
                due("in the place of one", NONE, Checks.tellAt(x, sort, 0, texts[sort] + texts[sort] + "!"));
                due("that one is as it was", 1, sizeOf(x, sort, 0));
                due("one", 1, x.count(sort));
            }
            TracePackets y = new TracePackets();
            Checks.tell(y, CODE, "bits 3;plain;stop;");
            for (String text : new String[] {"bits 9;via;bits 10;", "bits 9;" + many("via;", 41), "bits 9;via;if 7;"}) {
                due("fault of '" + text + "'", NONE, Checks.tellAt(y, CODE, 0, text));
                due("the code is as it was", 2, y.code(0, 0));
                due("its rules are as they were", 3, y.code(0, 1));
                due("its instructions are as they were", 0, y.code(0, 100));
            }
        });
        Sentences.holds("Promise 4",
                "-2: there is none such, there are as many as may be, or no such sort (the tape is empty"
                + " then, too; no text is read, FAULT 0).", () -> {
            for (int sort = 0; sort < 4; sort++) {
                TracePackets x = new TracePackets();
                for (int at : new int[] {0, 1, 2, -2, LEAST, GREATEST}) {
                    dueRefused(x, sort, at);
                }
                x.text(sort, NONE);
                dueRefused(x, sort, 1);
                x.text(sort, NONE);
                dueRefused(x, sort, NONE);
                dueRefused(x, sort, 2);
                dueRefused(x, sort, -2);
                due("none came", 2, x.count(sort));
                due("what is there is as it was", 0, sizeOf(x, sort, 1));
            }
            TracePackets y = new TracePackets();
            for (int sort : new int[] {-1, 4, 5, LEAST, GREATEST}) {
                dueRefused(y, sort, NONE);
                dueRefused(y, sort, 0);
            }
        });
        Sentences.holds("Promise 5",
                "Of the latest text(), what 0: the FAULT, 0 without, 1: its place, NONE without.", () -> {
            TracePackets x = new TracePackets();
            dueLatest(x, 0, NONE);
            Checks.tell(x, CODE, "!");
            dueLatest(x, 1, 0);
            Checks.tape(x, "if 40;");
            dueLatest(x, 1, 0);
            x.text(CODE, NONE);
            dueLatest(x, 2, 3);
            Checks.tell(x, CODE, many("via;", 41));
            dueLatest(x, 3, 160);
            Checks.tell(x, CODE, "if 9;");
            dueLatest(x, 4, 5);
            Checks.tell(x, CODE, "via;");
            dueLatest(x, 0, NONE);
            Checks.tell(x, LOG, "saw");
            dueLatest(x, 1, 3);
            x.text(LOG, 0);
            dueLatest(x, 0, NONE);
        });
        Sentences.holds("Promise 5", "NONE for another what.", () -> {
            TracePackets x = new TracePackets();
            for (int round = 0; round < 2; round++) {
                for (int what : new int[] {-1, 2, 3, LEAST, GREATEST}) {
                    due("fault(" + what + ")", NONE, x.fault(what));
                }
                Checks.tell(x, CODE, "!");
            }
        });
        Sentences.holds("Promise 25", "How many there are of a sort.", () -> {
            TracePackets x = new TracePackets();
            for (int sort = 0; sort < 4; sort++) {
                due("none", 0, x.count(sort));
                Checks.tell(x, sort, "!");
                due("a fault is none", 0, x.count(sort));
                x.text(sort, NONE);
                due("one", 1, x.count(sort));
                x.text(sort, 0);
                due("one in its place", 1, x.count(sort));
                x.text(sort, NONE);
                x.text(sort, NONE);
                due("two", 2, x.count(sort));
            }
        });
        Sentences.holds("Promise 25", "-2 for another one.", () -> {
            for (int sort : new int[] {-1, -2, 4, 5, LEAST, GREATEST}) {
                due("count(" + sort + ")", -2, new TracePackets().count(sort));
            }
        });
    }

    private static int sizeOf(TracePackets x, int sort, int number) {
        switch (sort) {
            case CODE:
                return x.code(number, 0);
            case DRIVE:
                return x.choice(number, NONE);
            case LOSS:
                return x.loss(number, NONE);
            default:
                return x.fact(number, NONE, 0);
        }
    }

    /** A text that would have a FAULT is refused: the tape is empty then, and the FAULT is 0. */
    private static void dueRefused(TracePackets x, int sort, int at) {
        Checks.tellAt(x, DRIVE, x.count(DRIVE) < 2 ? NONE : 0, "!");
        due("a fault ahead of it", 1, x.fault(0));
        due("text(" + sort + ", " + at + ")", -2, Checks.tellAt(x, sort, at, "!"));
        due("the tape is empty then", NONE, x.end(1));
        dueLatest(x, 0, NONE);
    }

    private static void dueLatest(TracePackets x, int fault, int place) {
        due("fault(0)", fault, x.fault(0));
        due("fault(1)", place, x.fault(1));
    }

    // Promises 6 to 8, 22

    private static void answersOfTexts() {
        Sentences.holds("Promise 6",
                "Of a CODE, what 0: INSTRUCTIONS, 1: BITS, 2: DEEP, 3: PERIOD, 4: FROM, 5: TO, 6: ONLY, 7:"
                + " ROOM, 8: RATE, 100 + a, 200 + a, 300 + a: of an INSTRUCTION which, the TARGET (NONE"
                + " without), the MODE.", () -> {
            TracePackets x = new TracePackets();
            Checks.tell(x, CODE, "");
            Checks.tell(x, CODE, "bits 8;deep 3;sync 98;from 1;to 38;only 1;room 4;rate 7;mode 1;call 39;" + many("via;", 38)
                    + "mode 0;jump 0;");
            int[] empty = {0, 6, 2, 20, 0, 39, 2, 9, 1};
            int[] rules = {40, 8, 3, 98, 1, 38, 1, 4, 7};
            for (int what = 0; what <= 8; what++) {
                due("of an empty code " + what, empty[what], x.code(0, what));
                due("of a full code " + what, rules[what], x.code(1, what));
            }
            int[][] first = {{3, 39, 1}, {5, NONE, 1}};
            int[] last = {2, 0, 0};
            for (int i = 0; i < 3; i++) {
                int hundreds = 100 * (i + 1);
                due("at 0", first[0][i], x.code(1, hundreds));
                due("at 1", first[1][i], x.code(1, hundreds + 1));
                due("at 39", last[i], x.code(1, hundreds + 39));
            }
        });
        Sentences.holds("Promise 6", "-2: there is none such (of either), or for another what.", () -> {
            TracePackets x = new TracePackets();
            due("no code yet", -2, x.code(0, 1));
            Checks.tell(x, CODE, "via;via;");
            Checks.tell(x, CODE, many("via;", 40));
            for (int code : new int[] {-1, -2, 2, LEAST, GREATEST}) {
                due("code(" + code + ")", -2, x.code(code, 0));
                due("code(" + code + ")", -2, x.code(code, 100));
            }
            int[] beyond = {102, 139, 202, 239, 302, 339};
            for (int what : beyond) {
                due("no instruction " + what, -2, x.code(0, what));
            }
            int[] another = {-1, -100, 9, 10, 99, 140, 199, 240, 299, 340, 399, 400, 401, 1000, LEAST, GREATEST};
            for (int what : another) {
                due("another what " + what, -2, x.code(1, what));
            }
        });
        Sentences.holds("Promise 7",
                "How many CHOICES (k NONE), or the k-th: its ADDRESS, 100: no, 101: yes.", () -> {
            TracePackets x = new TracePackets();
            Checks.tell(x, DRIVE, "");
            Checks.tell(x, DRIVE, "go 0;n;y;" + many("n;", 56) + "go 39;");
            due("of an empty drive", 0, x.choice(0, NONE));
            due("of a full drive", 60, x.choice(1, NONE));
            due("the first", 0, x.choice(1, 0));
            due("no", 100, x.choice(1, 1));
            due("yes", 101, x.choice(1, 2));
            due("the last", 39, x.choice(1, 59));
        });
        Sentences.holds("Promise 7", "-2: not so many, or there is none such.", () -> {
            TracePackets x = new TracePackets();
            due("no drive yet", -2, x.choice(0, NONE));
            Checks.tell(x, DRIVE, "");
            Checks.tell(x, DRIVE, many("y;", 60));
            due("of an empty drive", -2, x.choice(0, 0));
            for (int k : new int[] {60, 61, -2, LEAST, GREATEST}) {
                due("choice " + k, -2, x.choice(1, k));
            }
            for (int drive : new int[] {-1, -2, 2, LEAST, GREATEST}) {
                due("drive " + drive, -2, x.choice(drive, NONE));
                due("drive " + drive, -2, x.choice(drive, 0));
            }
            Checks.tellAt(x, DRIVE, 1, "y;");
            due("what a longer text had is gone", -2, x.choice(1, 1));
        });
        Sentences.holds("Promise 8", "How many PACKETS a LOSS has (k NONE), or the k-th, rising.", () -> {
            TracePackets x = new TracePackets();
            Checks.tell(x, LOSS, "");
            Checks.tell(x, LOSS, "lose 99;lose 50;lose 0;lose 98;lose 1;lose 51;lose 2;lose 97;lose 3;lose 4;lose 5;lose 6;");
            due("of an empty loss", 0, x.loss(0, NONE));
            due("of a full loss", 12, x.loss(1, NONE));
            int[] rising = {0, 1, 2, 3, 4, 5, 6, 50, 51, 97, 98, 99};
            for (int k = 0; k < 12; k++) {
                due("packet " + k, rising[k], x.loss(1, k));
            }
        });
        Sentences.holds("Promise 8", "-2: not so many, or there is none such.", () -> {
            TracePackets x = new TracePackets();
            due("no loss yet", -2, x.loss(0, NONE));
            Checks.tell(x, LOSS, "");
            Checks.tell(x, LOSS, "lose 1;lose 2;lose 2;");
            due("of an empty loss", -2, x.loss(0, 0));
            for (int k : new int[] {2, 3, 12, -2, LEAST, GREATEST}) {
                due("packet " + k, -2, x.loss(1, k));
            }
            for (int loss : new int[] {-1, -2, 2, LEAST, GREATEST}) {
                due("loss " + loss, -2, x.loss(loss, NONE));
                due("loss " + loss, -2, x.loss(loss, 0));
            }
        });
        Sentences.holds("Promise 22",
                "How many FACTS (k NONE, what 0); of FACT k, what 0: the ADDRESS, 1: how often.", () -> {
            TracePackets x = new TracePackets();
            Checks.tell(x, LOG, "");
            Checks.tell(x, LOG, "saw 39 0;" + many("saw 1 2;", 6) + "saw 0 99;");
            due("of an empty log", 0, x.fact(0, NONE, 0));
            due("of a full log", 8, x.fact(1, NONE, 0));
            due("the first", 39, x.fact(1, 0, 0));
            due("the first, how often", 0, x.fact(1, 0, 1));
            due("the last", 0, x.fact(1, 7, 0));
            due("the last, how often", 99, x.fact(1, 7, 1));
        });
        Sentences.holds("Promise 22", "-2: there is none such (of either), or for another what.", () -> {
            TracePackets x = new TracePackets();
            due("no log yet", -2, x.fact(0, NONE, 0));
            Checks.tell(x, LOG, "");
            Checks.tell(x, LOG, many("saw 1 2;", 8));
            due("of an empty log", -2, x.fact(0, 0, 0));
            due("of an empty log", -2, x.fact(0, 0, 1));
            for (int k : new int[] {8, 9, -2, LEAST, GREATEST}) {
                due("fact " + k, -2, x.fact(1, k, 0));
                due("fact " + k, -2, x.fact(1, k, 1));
            }
            for (int what : new int[] {-1, 2, 3, LEAST, GREATEST}) {
                due("what " + what, -2, x.fact(1, 0, what));
                due("how many, what " + what, -2, x.fact(1, NONE, what));
            }
            due("how many, what 1", -2, x.fact(1, NONE, 1));
            for (int log : new int[] {-1, -2, 2, LEAST, GREATEST}) {
                due("log " + log, -2, x.fact(log, NONE, 0));
                due("log " + log, -2, x.fact(log, 0, 1));
            }
        });
    }

    // Promises 26, 27

    private static void images() {
        Sentences.holds("Promise 26",
                "Image k (0 .. 2) is all that is told (the tape, the FAULT, too), as it is now: true; false"
                + " for another k.", () -> {
            TracePackets x = new TracePackets();
            for (int k : new int[] {-1, -2, 3, 4, LEAST, GREATEST}) {
                Checks.due("image(" + k + ")", false, x.image(k));
            }
            Checks.due("of a new object", true, x.image(0));
            fill(x);
            Checks.due("of a full one", true, x.image(2));
            Checks.tellAt(x, CODE, 1, "bits 1;");
            Checks.due("between them", true, x.image(1));
            // as it was then, not as it is now; an image that was refused changed none
            Checks.due("again(2)", true, x.again(2));
            dueFull(x);
            Checks.due("again(1)", true, x.again(1));
            due("the other code", 0, x.code(1, 0));
            due("the fault of that", 0, x.fault(0));
            due("the tape of that", NONE, x.end(1));
            Checks.due("again(0)", true, x.again(0));
            dueNew(x);
            // a later image takes the place of an earlier one
            Checks.tell(x, CODE, "via;");
            Checks.due("image(2) once more", true, x.image(2));
            x.again(0);
            Checks.due("again(2)", true, x.again(2));
            due("what the later one has", 1, x.count(CODE));
            due("what the later one has", 0, x.count(DRIVE));
        });
        Sentences.holds("Promise 27",
                "All that is as image k has it: true; false if there is none such.", () -> {
            TracePackets x = new TracePackets();
            fill(x);
            for (int k : new int[] {0, 1, 2, -1, -2, 3, LEAST, GREATEST}) {
                Checks.due("no image " + k + " yet", false, x.again(k));
            }
            dueFull(x);
            fill(x);
            x.image(1);
            Checks.due("no image 0", false, x.again(0));
            Checks.due("no image 2", false, x.again(2));
            for (int round = 0; round < 3; round++) {
                Checks.due("again(1)", true, x.again(1));
                dueFull(x);
                for (int sort = 0; sort < 4; sort++) {
                    x.text(sort, round % 2);
                }
            }
            // images are no part of what is told: they stay
            x.again(1);
            x.image(0);
            Checks.tellAt(x, CODE, 0, "");
            x.image(2);
            Checks.due("again(0)", true, x.again(0));
            Checks.due("image 2 stays", true, x.again(2));
            due("what image 2 has", 0, x.code(0, 0));
            Checks.due("again(1)", true, x.again(1));
            dueFull(x);
        });
    }

    /** As many texts as may be, as long as may be, a FAULT, a full tape. */
    private static void fill(TracePackets x) {
        String[] texts = {"bits 9;" + many("jump 39;", 40), many("go 39;", 60), "lose 99;lose 1;", many("saw 39 99;", 8)};
        for (int sort = 0; sort < 4; sort++) {
            for (int i = 0; i < 2; i++) {
                Checks.tellAt(x, sort, x.count(sort) < 2 ? NONE : i, texts[sort]);
            }
        }
        Checks.tellAt(x, CODE, 0, "via; if");
        Checks.tape(x, many("y;", 30) + many(" ", 539) + "!");
    }

    private static void dueFull(TracePackets x) {
        int[] sizes = {40, 60, 2, 8};
        for (int sort = 0; sort < 4; sort++) {
            due("count(" + sort + ")", 2, x.count(sort));
            due("size of the first", sizes[sort], sizeOf(x, sort, 0));
            due("size of the last", sizes[sort], sizeOf(x, sort, 1));
        }
        due("bits", 9, x.code(0, 1));
        due("kind", 2, x.code(1, 139));
        due("target", 39, x.code(1, 239));
        due("choice", 39, x.choice(1, 59));
        due("loss", 99, x.loss(1, 1));
        due("fact", 99, x.fact(1, 7, 1));
        dueLatest(x, 1, 7);
        due("the full tape", 600, x.end(600));
        due("its last byte", NONE, x.text(DRIVE, 0));
        due("its last byte", 599, x.fault(1));
    }

    private static void dueNew(TracePackets x) {
        for (int sort = 0; sort < 4; sort++) {
            due("count(" + sort + ")", 0, x.count(sort));
        }
        dueLatest(x, 0, NONE);
        due("an empty tape", NONE, x.end(1));
    }
}
