/** The boundary cases of PACKETS: how a RUN is ENCODED, what is told of what was sent. */
final class PacketBoundaries {
    private static final int NONE = TracePackets.NONE;
    private static final int CODE = 0;
    private static final int DRIVE = 1;
    private static final int LEAST = Integer.MIN_VALUE;
    private static final int GREATEST = Integer.MAX_VALUE;
    /** What sent() tells. */
    private static final int PACKETS = 0;
    private static final int SUM = 1;
    private static final int NUMERATOR = 2;
    private static final int DENOMINATOR = 3;
    private static final int DROPPED = 4;
    private static final int FULLEST = 5;
    private static final int GAP = 6;
    private static final int LEAST_BITS = 7;
    private static final int WORST = 8;
    private static final int SAVED = 9;
    /** Calls as deep as 3, that come back: at 0 2 4 6 5 3 1. */
    private static final String NEST = "call 2;stop;call 4;ret;call 6;ret;ret;";
    /** A PACKET at each STEP, and one goes out at each second: it is full at STEP 3, empty at STEP 8. */
    private static final String FULL = "if 0;stop;bits 1;room 3;rate 2;";

    private PacketBoundaries() { }

    static void all() {
        buffer();
        onAndOff();
        mapsAndTargets();
        drops();
        ends();
        sums();
        answersOfPackets();
        answersOfSent();
    }

    private static void due(String call, long want, long got) {
        Checks.due(call, want, got);
    }

    private static TracePackets told(String code, String drive) {
        return Checks.told(code, drive);
    }

    private static String many(String part, int times) {
        return Checks.many(part, times);
    }

    /**
     * The PACKETS of a RUN as a text: S address,count; M and the bits, the first one first; G address,digits; F (OFF)
     * and E with the count; O (OVER); each with the STEP at which it was PUT.
     */
    static String packetsOf(TracePackets x) {
        StringBuilder text = new StringBuilder();
        for (int k = 0; k < x.sent(0, 0, PACKETS); k++) {
            int kind = x.packet(0, 0, k, 0);
            int value = x.packet(0, 0, k, 1);
            int extra = x.packet(0, 0, k, 2);
            text.append(k == 0 ? "" : " ").append(kind < 0 || kind > 5 ? '?' : "SMGFEO".charAt(kind));
            if (kind == 1) {
                for (int i = 0; i < extra; i++) {
                    text.append(value >> i & 1);
                }
                text.append(value >> extra == 0 ? "" : "?");
            } else if (kind == 0 || kind == 2) {
                text.append(value).append(',').append(extra);
            } else if (kind == 5) {
                text.append(value == 0 && extra == 0 ? "" : "?");
            } else {
                text.append(value).append(extra == 0 ? "" : "?");
            }
            text.append('@').append(x.packet(0, 0, k, 4));
        }
        return text.toString();
    }

    private static void duePackets(String code, String drive, String want) {
        Checks.due("packets of '" + code + "' by '" + drive + "'", want, packetsOf(told(code, drive)));
    }

    private static void dueSent(String code, String drive, int what, int want) {
        due("sent " + what + " of '" + code + "' by '" + drive + "'", want, told(code, drive).sent(0, 0, what));
    }

    private static void dueDropped(String code, String drive, int dropped, String want) {
        duePackets(code, drive, want);
        dueSent(code, drive, DROPPED, dropped);
    }

    // Term 3

    private static void buffer() {
        Sentences.holds("Term 3, Promise 15",
                "A RUN is ENCODED STEP by STEP: PACKETS that are PUT have numbers from 0 on, and come into a"
                + " BUFFER.", () -> {
            duePackets("", "", "");
            dueSent("", "", FULLEST, 0);
            duePackets("stop;", "", "S0,0@0 E1@1");
            dueSent("stop;", "", FULLEST, 2);
            due("the first is number 0", 0, told("stop;", "").packet(0, 0, 0, 0));
        });
        Sentences.holds("Term 3, Promise 15",
                "There are a MAP (bits), a SHADOW (ADDRESSES), LAST (an ADDRESS), COUNT, ON or not (not at"
                + " first), BLIND or not.", () -> {
            duePackets("plain;stop;from 1;", "", "S1,0@1 E1@2");
            duePackets("plain;stop;from 2;", "", "");
            duePackets("stop;", "", "S0,0@0 E1@1");
        });
        Sentences.holds("Term 3, Promise 16",
                "At STEP k: (1) if k is above 0 and divided by RATE: the first PACKET goes out of the BUFFER.", () -> {
            // two at STEP 0, one at each STEP, END behind the last: how full by RATE
            dueBuffer(1, 20, 2, 0);
            dueBuffer(2, 1, 3, 0);
            dueBuffer(2, 2, 3, 0);
            dueBuffer(2, 3, 4, 0);
            dueBuffer(2, 4, 4, 0);
            dueBuffer(3, 3, 4, 0);
            dueBuffer(3, 4, 5, 0);
            dueBuffer(8, 7, 9, 0);
            dueBuffer(8, 8, 9, 0);
            dueBuffer(9, 7, 9, 0);
            dueBuffer(9, 8, 9, 1);
            // out of an empty one nothing goes: it is no emptier then
            dueDropped(many("plain;", 20) + "via;stop;sync 99;room 3;rate 2;", many("go 20;", 5) + "go 21;", 1,
                    "S0,0@0 G20,2@20 G20,1@21 G20,1@22 G20,1@23 G20,1@24");
        });
        Sentences.holds("Term 3, Promise 15",
                "(2) If it is BLIND, and the BUFFER is empty: OVER is PUT, it is BLIND no more, not ON.", () -> {
            // at STEP 7 there is still one in it, at STEP 8 none
            duePackets(FULL, many("y;", 6) + "n;", "S0,0@0 M1@0 M1@1 M1@2");
            duePackets(FULL, many("y;", 7) + "n;", "S0,0@0 M1@0 M1@1 M1@2 O@8 S1,0@8 E1@9");
            // at a STEP that is not TRACED; not ON, so that no OFF comes, and a SYNC later
            duePackets("via;via;via;plain;plain;plain;plain;plain;jump 0;to 2;room 3;rate 2;", "go 1;go 2;go 3;",
                    "S0,0@0 G1,1@0 G2,1@1 G3,1@2 O@8 S0,0@9 E1@10");
            // it can be BLIND, and see, once more
            String twice = "S0,0@0 M1@0 M1@1 M1@2 O@8 S0,0@8 M1@8";
            dueDropped(FULL, many("y;", 12) + "n;", 2, twice);
            dueDropped(FULL, many("y;", 13) + "n;", 2, twice + " O@14 S1,0@14 E1@15");
        });
    }

    /** A PACKET at each of so many STEPS, then a stop, with ROOM 9. */
    private static void dueBuffer(int rate, int vias, int fullest, int dropped) {
        String code = "via;stop;sync 99;rate " + rate + ";";
        String drive = many("go 0;", vias - 1) + "go 1;";
        dueSent(code, drive, FULLEST, fullest);
        dueSent(code, drive, DROPPED, dropped);
    }

    private static void onAndOff() {
        Sentences.holds("Term 3, Promise 15",
                "(3) If it is not BLIND: the STEP is not TRACED: if it is ON, the MAP is PUT, then OFF with"
                + " COUNT, and it is not ON;", () -> {
            duePackets("plain;plain;plain;to 0;", "", "S0,0@0 F1@1");
            duePackets("plain;plain;plain;to 1;", "", "S0,0@0 F2@2");
            duePackets("if 1;plain;stop;to 0;", "y;", "S0,0@0 M1@1 F1@1");
            duePackets("jump 1;plain;if 0;stop;to 0;", "y;n;", "S0,0@0 F1@1 S0,0@3 F1@4");
            // not ON: no OFF
            duePackets("plain;plain;stop;from 2;", "", "S2,0@2 E1@3");
            // BLIND: no OFF, and none is DROPPED
            dueDropped("if 0;plain;plain;to 0;bits 1;room 3;rate 9;", "y;y;n;", 1, "S0,0@0 M1@0 M1@1");
        });
        Sentences.holds("Term 3, Promise 15",
                "the STEP is TRACED: if it is not ON, or COUNT is PERIOD or more, the MAP is PUT, then SYNC"
                + " with this ADDRESS and COUNT (0, if it was not ON); it is ON, COUNT 0, LAST this ADDRESS,"
                + " the SHADOW empty.", () -> {
            // the least PERIOD, the greatest, that at first
            duePackets("plain;stop;sync 2;", "", "S0,0@0 E2@2");
            duePackets("plain;plain;stop;sync 2;", "", "S0,0@0 S2,2@2 E1@3");
            duePackets("plain;plain;plain;plain;stop;sync 2;", "", "S0,0@0 S2,2@2 S4,2@4 E1@5");
            duePackets("jump 0;sync 99;", "", "S0,0@0 S0,99@99 S0,99@198 E2@200");
            duePackets(many("plain;", 20), "", "S0,0@0 E20@20");
            duePackets(many("plain;", 21), "", "S0,0@0 S20,20@20 E1@21");
            // the MAP ahead of it, and a new one behind it
            duePackets("if 0;sync 2;", "y;y;y;", "S0,0@0 M11@2 S0,2@2 M1@4 E2@4");
            // COUNT 0, if it was not ON
            duePackets("plain;jump 2;if 0;stop;to 1;", "y;n;", "S0,0@0 F2@2 S0,0@3 F2@5");
            // LAST is the ADDRESS of the latest SYNC
            String far = "jump 8;" + many("stop;", 7) + "plain;via;stop;";
            duePackets(far, "go 10;", "S0,0@0 G10,2@2 E4@4");
            duePackets(far + "from 8;", "go 10;", "S8,0@1 G10,1@2 E3@4");
            duePackets(far + "sync 2;", "go 10;", "S0,0@0 S9,2@2 G10,1@2 E2@4");
            // the SHADOW is empty: the ret needs a GOTO
            String call = "call 2;stop;plain;ret;";
            duePackets(call + "sync 2;", "", "S0,0@0 S3,2@2 G1,1@2 E2@4");
            duePackets(call + "sync 3;", "", "S0,0@0 M1@3 S1,3@3 E1@4");
        });
    }

    private static void mapsAndTargets() {
        Sentences.holds("Term 3, Promise 15", "(4) If it is ON then: if: 1 (yes), 0 comes to the MAP;", () -> {
            duePackets("if 0;stop;", "y;n;", "S0,0@0 M10@3 E3@3");
            duePackets("if 1;if 2;stop;", "n;y;", "S0,0@0 M01@3 E3@3");
            // not ON: nothing comes
            duePackets("if 1;if 2;stop;from 1;", "y;n;", "S1,0@1 M0@3 E2@3");
            duePackets("if 1;stop;from 1;", "y;", "S1,0@1 E1@2");
        });
        Sentences.holds("Term 3, Promise 15",
                "call: the next ADDRESS comes upon the SHADOW, its lowest one goes, if there are more than"
                + " DEEP;", () -> {
            duePackets(NEST + "deep 0;", "", "S0,0@0 G5,1@3 G3,1@4 G1,1@5 E7@7");
            duePackets(NEST + "deep 1;", "", "S0,0@0 M1@4 G3,1@4 G1,1@5 E7@7");
            duePackets(NEST + "deep 2;", "", "S0,0@0 M11@5 G1,1@5 E7@7");
            duePackets(NEST + "deep 3;", "", "S0,0@0 M111@7 E7@7");
            duePackets(NEST + "deep 4;", "", "S0,0@0 M111@7 E7@7");
            // five with DEEP 4
            duePackets("call 2;stop;call 4;ret;call 6;ret;call 8;ret;call 10;ret;ret;deep 4;", "",
                    "S0,0@0 M1111@9 G1,1@9 E11@11");
            // nine with DEEP 4, and back: the last five need a GOTO
            StringBuilder nine = new StringBuilder("call 2;stop;");
            for (int a = 4; a <= 18; a += 2) {
                nine.append("call ").append(a).append(";ret;");
            }
            duePackets(nine + "ret;deep 4;", "", "S0,0@0 M1111@13 G9,2@13 G7,2@14 G5,1@15 G3,1@16 G1,1@17 E19@19");
            // not ON: nothing comes upon it
            duePackets("call 2;stop;ret;from 1;", "", "S2,0@1 G1,1@1 E2@3");
        });
        Sentences.holds("Term 3, Promise 15", "via: the MAP is PUT, then GOTO with the ADDRESS;", () -> {
            duePackets("via;stop;", "go 1;", "S0,0@0 G1,1@0 E2@2");
            duePackets("if 1;via;stop;", "y;go 2;", "S0,0@0 M1@1 G2,1@1 E3@3");
            duePackets("via;stop;from 1;", "go 1;", "S1,0@1 E1@2");
        });
        Sentences.holds("Term 3, Promise 15",
                "ret: what is on top of the SHADOW (if any) is taken off: if that is the ADDRESS it goes to,"
                + " 1 comes to the MAP; else the MAP is PUT, then GOTO with the ADDRESS.", () -> {
            duePackets("call 2;stop;ret;", "", "S0,0@0 M1@3 E3@3");
            duePackets("call 2;stop;ret;deep 0;", "", "S0,0@0 G1,1@1 E3@3");
            duePackets("call 3;call 3;stop;ret;deep 1;", "", "S0,0@0 M11@5 E5@5");
            duePackets("call 2;stop;if 3;ret;deep 0;", "y;", "S0,0@0 M1@2 G1,1@2 E4@4");
            duePackets("call 2;stop;if 3;ret;deep 1;", "y;", "S0,0@0 M11@4 E4@4");
            // not ON: nothing comes
            duePackets("call 2;stop;ret;to 1;", "", "S0,0@0 F1@1 S1,0@2 E1@3");
        });
        Sentences.holds("Term 3, Promise 15",
                "(Of a CHOICE that ENDS the RUN, of ret with an empty STACK nothing comes.)", () -> {
            String[][] ended = {{"if 0;", ""}, {"if 0;", "go 0;"}, {"via;", ""}, {"via;", "y;"}, {"via;", "n;"}, {"ret;", ""}};
            for (String[] run : ended) {
                duePackets(run[0], run[1], "S0,0@0 E1@1");
                duePackets(run[0] + "bits 1;", run[1], "S0,0@0 E1@1");
            }
            // what leads to where there is no INSTRUCTION comes
            duePackets("if 0;", "n;", "S0,0@0 M0@1 E1@1");
            duePackets("via;", "go 39;", "S0,0@0 G39,2@0 E1@1");
            duePackets("jump 2;ret;call 1;", "", "S0,0@0 M1@3 E3@3");
            duePackets("jump 2;ret;call 1;deep 0;", "", "S0,0@0 G3,1@2 E3@3");
        });
        Sentences.holds("Term 3, Promise 15", "If the MAP has as many bits as BITS, it is PUT.", () -> {
            duePackets("if 0;stop;bits 1;", "y;n;", "S0,0@0 M1@0 M0@1 E3@3");
            duePackets("if 0;bits 9;", many("y;", 8), "S0,0@0 M11111111@9 E9@9");
            duePackets("if 0;bits 9;", many("y;", 9), "S0,0@0 M111111111@8 E10@10");
            duePackets("if 0;bits 9;", many("y;", 10), "S0,0@0 M111111111@8 M1@11 E11@11");
            duePackets("if 0;", many("y;", 5), "S0,0@0 M11111@6 E6@6");
            duePackets("if 0;", many("y;", 6), "S0,0@0 M111111@5 E7@7");
            duePackets("call 2;stop;ret;bits 1;", "", "S0,0@0 M1@1 E3@3");
        });
        Sentences.holds("Term 3, Promise 15", "COUNT is 1 more.", () -> {
            duePackets("stop;", "", "S0,0@0 E1@1");
            duePackets("plain;plain;plain;from 1;", "", "S1,0@1 E2@3");
            duePackets("plain;plain;plain;to 1;", "", "S0,0@0 F2@2");
            duePackets("if 0;bits 1;", "y;y;", "S0,0@0 M1@0 M1@1 E3@3");
            duePackets("via;", "go 0;go 0;", "S0,0@0 G0,1@0 G0,1@1 E3@3");
        });
        Sentences.holds("Term 3, Promise 15", "A MAP that was PUT is empty.", () -> {
            duePackets("if 1;jump 0;bits 2;", "y;n;n;y;", "S0,0@0 M10@2 M01@6 E9@9");
            duePackets("if 1;via;stop;", "y;go 0;n;go 2;", "S0,0@0 M1@1 G0,1@1 M0@3 G2,1@3 E5@5");
            duePackets("if 1;jump 0;to 0;", "y;n;", "S0,0@0 M1@1 F1@1 S0,0@2 M0@3 F1@3 S0,0@4 E1@5");
        });
        Sentences.holds("Term 3, Promise 15",
                "GOTO has one digit (the low one), if the high one is that of LAST, else two; LAST is its"
                + " ADDRESS then.", () -> {
            duePackets(many("via;", 40), "go 7;go 8;go 15;go 0;go 39;go 32;",
                    "S0,0@0 G7,1@0 G8,2@1 G15,1@2 G0,2@3 G39,2@4 G32,1@5 E7@7");
            // where it goes without a PACKET is not LAST
            duePackets("via;jump 8;" + many("stop;", 6) + "via;stop;", "go 1;go 9;", "S0,0@0 G1,1@0 G9,2@2 E4@4");
            // of a ret, too: 0 is LAST, then 9, then 1
            duePackets("jump 8;stop;plain;plain;plain;plain;ret;stop;call 6;via;deep 0;", "go 1;",
                    "S0,0@0 G9,2@2 G1,2@3 E5@5");
        });
    }

    private static void drops() {
        Sentences.holds("Term 3, Promise 15",
                "PUT: a MAP without bits is not; if the BUFFER has ROOM PACKETS, it is DROPPED (without a"
                + " number), the MAP is empty, it is BLIND, not ON, and nothing more is done at this STEP.", () -> {
            // no MAP without bits ahead of GOTO, SYNC, OFF, END
            duePackets("via;plain;plain;stop;to 2;sync 2;", "go 1;", "S0,0@0 G1,1@0 S2,2@2 F1@3");
            // the least ROOM, the greatest: the last that comes, the first that is DROPPED
            dueDropped("via;stop;room 3;rate 9;", "go 1;", 0, "S0,0@0 G1,1@0 E2@2");
            dueDropped("via;stop;room 3;rate 9;", "go 0;go 1;", 1, "S0,0@0 G0,1@0 G1,1@1");
            dueDropped("via;stop;room 4;rate 9;", "go 0;go 1;", 0, "S0,0@0 G0,1@0 G1,1@1 E3@3");
            dueBuffer(9, 7, 9, 0);
            dueBuffer(9, 8, 9, 1);
            // each kind that can be DROPPED, and nothing more at that STEP: a GOTO
            dueDropped("via;stop;room 3;rate 9;", "go 0;go 0;go 0;go 0;", 1, "S0,0@0 G0,1@0 G0,1@1");
            // a MAP ahead of a GOTO, of a SYNC, of an OFF, of END
            dueDropped("via;via;if 3;via;stop;room 3;rate 9;", "go 1;go 2;y;go 4;", 1, "S0,0@0 G1,1@0 G2,1@1");
            dueDropped("via;via;if 3;stop;sync 3;room 3;rate 9;", "go 1;go 2;y;", 1, "S0,0@0 G1,1@0 G2,1@1");
            dueDropped("via;via;if 3;stop;to 2;room 3;rate 9;", "go 1;go 2;y;", 1, "S0,0@0 G1,1@0 G2,1@1");
            dueDropped("via;via;if 3;stop;room 3;rate 9;", "go 1;go 2;y;", 1, "S0,0@0 G1,1@0 G2,1@1");
            // a MAP that has as many bits as BITS
            dueDropped("via;via;if 2;stop;bits 1;room 3;rate 9;", "go 1;go 2;y;y;y;n;", 1, "S0,0@0 G1,1@0 G2,1@1");
            // a SYNC, and no GOTO at that STEP; an OFF
            dueDropped("via;via;via;stop;sync 2;room 3;rate 9;", "go 1;go 2;go 3;", 1, "S0,0@0 G1,1@0 G2,1@1");
            dueDropped("via;via;stop;to 1;room 3;rate 9;", "go 1;go 2;", 1, "S0,0@0 G1,1@0 G2,1@1");
            // the MAP of STEPS 4 and 5 is DROPPED: it is empty when it sees again, at STEP 10
            dueDropped("if 0;stop;bits 2;sync 2;room 3;rate 2;", many("y;", 12) + "n;", 2,
                    "S0,0@0 M11@1 S0,2@2 M11@3 S0,2@4 O@10 S0,0@10 M11@11 S0,2@12");
            // without a number; BLIND, it drops no more
            dueDropped(FULL, many("y;", 9) + "n;", 2, "S0,0@0 M1@0 M1@1 M1@2 O@8 S0,0@8 M1@8");
        });
    }

    private static void ends() {
        Sentences.holds("Term 3, Promise 15",
                "Behind the last STEP, if it is ON: the MAP is PUT, then END with COUNT (if not BLIND by"
                + " then).", () -> {
            duePackets("", "", "");
            duePackets("stop;", "", "S0,0@0 E1@1");
            duePackets("stop;from 1;", "", "");
            duePackets("plain;stop;to 0;", "", "S0,0@0 F1@1");
            duePackets("if 1;stop;", "n;", "S0,0@0 M0@2 E2@2");
            duePackets("jump 0;sync 99;", "", "S0,0@0 S0,99@99 S0,99@198 E2@200");
            // the MAP is DROPPED: no END is tried; END is DROPPED; BLIND already
            dueDropped("via;via;if 3;stop;room 3;rate 9;", "go 1;go 2;y;", 1, "S0,0@0 G1,1@0 G2,1@1");
            dueDropped("via;via;stop;room 3;rate 9;", "go 1;go 2;", 1, "S0,0@0 G1,1@0 G2,1@1");
            dueDropped("via;via;via;stop;room 3;rate 9;", "go 1;go 2;go 3;", 1, "S0,0@0 G1,1@0 G2,1@1");
            // none goes out of the BUFFER behind the last STEP, though RATE would divide it
            dueDropped("via;via;stop;room 3;rate 3;", "go 1;go 2;", 1, "S0,0@0 G1,1@0 G2,1@1");
        });
        Sentences.holds("Term 3, Promise 15",
                "BITS OF A PACKET: SYNC 16, MAP 4 and its bits, GOTO 4 and 3 for each digit, OFF, END 10,"
                + " OVER 4.", () -> {
            dueBits("stop;", "", 16, 10);
            dueBits("plain;stop;to 0;", "", 16, 10);
            dueBits("if 0;bits 1;", "y;", 16, 5, 10);
            dueBits("if 0;bits 9;", many("y;", 9), 16, 13, 10);
            dueBits("via;", "go 7;", 16, 7, 10);
            dueBits("via;", "go 8;", 16, 10, 10);
            dueBits(FULL, many("y;", 7) + "n;", 16, 5, 5, 5, 4, 16, 10);
        });
    }

    private static void dueBits(String code, String drive, int... bits) {
        TracePackets x = told(code, drive);
        int sum = 0;
        for (int k = 0; k < bits.length; k++) {
            due("bits of packet " + k + " of '" + code + "'", bits[k], x.packet(0, 0, k, 3));
            sum += bits[k];
        }
        due("packets of '" + code + "'", bits.length, x.sent(0, 0, PACKETS));
        due("sum of '" + code + "'", sum, x.sent(0, 0, SUM));
    }

    // Term 5, of PACKETS

    private static void sums() {
        Sentences.holds("Term 5, Promise 16", "Of PACKETS: SUM of BITS;", () -> {
            dueSent("", "", SUM, 0);
            dueSent("stop;from 1;", "", SUM, 0);
            dueSent("stop;", "", SUM, 26);
            dueSent(FULL, many("y;", 7) + "n;", SUM, 61);
        });
        Sentences.holds("Term 5, Promise 16",
                "RATIO: SUM by STEPS that are TRACED, a fraction in least terms (none: none);", () -> {
            dueRatio("", NONE, NONE);
            dueRatio("plain;stop;from 2;", NONE, NONE);
            dueRatio("stop;", 26, 1);
            dueRatio("plain;stop;", 13, 1);
            dueRatio("plain;plain;stop;", 26, 3);
            dueRatio("plain;plain;plain;stop;", 13, 2);
            dueRatio(many("plain;", 12) + "stop;", 2, 1);
            // STEPS that are not TRACED do not count
            dueRatio("plain;plain;stop;to 1;", 13, 1);
        });
        Sentences.holds("Term 5, Promise 16", "of each kind how many;", () -> {
            dueKinds("", "", 0, 0, 0, 0, 0, 0);
            dueKinds("stop;", "", 1, 0, 0, 0, 1, 0);
            dueKinds("jump 1;plain;if 0;stop;to 0;", "y;n;", 2, 0, 0, 2, 0, 0);
            dueKinds("if 1;via;stop;", "y;go 0;n;go 2;", 1, 2, 2, 0, 1, 0);
            dueKinds(FULL, many("y;", 13) + "n;", 3, 4, 0, 0, 1, 2);
            dueKinds("jump 0;sync 2;", "", 100, 0, 0, 0, 1, 0);
        });
        Sentences.holds("Term 5, Promise 16", "DROPPED;", () -> {
            dueSent("", "", DROPPED, 0);
            dueSent(FULL, "y;y;", DROPPED, 0);
            dueSent(FULL, "y;y;y;", DROPPED, 1);
            dueSent(FULL, "y;y;y;y;", DROPPED, 1);
            dueSent(FULL, many("y;", 10), DROPPED, 2);
        });
        Sentences.holds("Term 5, Promise 16", "FULLEST: the most in the BUFFER;", () -> {
            dueSent("", "", FULLEST, 0);
            dueSent("stop;from 1;", "", FULLEST, 0);
            dueSent("plain;stop;to 0;", "", FULLEST, 1);
            dueSent("plain;plain;stop;", "", FULLEST, 1);
            dueSent(FULL, many("y;", 20), FULLEST, 3);
            dueBuffer(9, 20, 9, 1);
        });
        Sentences.holds("Term 5, Promise 16",
                "GAP: the longest row of STEPS, one behind the other, all of which are TRACED, none of which"
                + " is REBUILT without any loss (STEPS of a PIECE are those from that on at which its first"
                + " SYNC was PUT).", () -> {
            dueSent("", "", GAP, 0);
            dueSent("stop;from 1;", "", GAP, 0);
            dueSent("jump 0;", "", GAP, 0);
            // STEPS 3 to 7, and behind the last MAP: 9 on
            dueSent(FULL, many("y;", 9) + "n;", GAP, 5);
            dueSent(FULL, many("y;", 3) + "n;", GAP, 2);
            dueSent(FULL, many("y;", 13) + "n;", GAP, 5);
            // at the end: what END would have told
            dueSent("via;stop;room 3;rate 9;", "go 0;go 1;", GAP, 1);
            // a STEP that is not TRACED ends a row: 2 3, 5 6 7
            dueSent("via;via;via;plain;mode 1;plain;mode 0;plain;plain;plain;mode 1;stop;only 0;room 3;rate 9;",
                    "go 1;go 2;go 3;", GAP, 3);
        });
        Sentences.holds("Term 5, Promise 16", "SAVED: by how much less SUM is than with DEEP 0.", () -> {
            dueSent("", "", SAVED, 0);
            dueSent("stop;", "", SAVED, 0);
            dueSent("call 2;stop;ret;deep 0;", "", SAVED, 0);
            dueSent("call 2;stop;ret;", "", SAVED, 7 - 5);
            dueSent(NEST + "deep 1;", "", SAVED, 7 - 5);
            dueSent(NEST + "deep 4;", "", SAVED, 3 * 7 - 7);
            // with DEEP 0 END is DROPPED: 30 bits, 32 without
            dueSent("call 3;call 3;stop;ret;room 3;rate 9;", "", SAVED, -2);
        });
        Sentences.holds("Term 5, Promise 16",
                "LEAST: the BITS, 1 .. 9, all else as told, by which the SUM is least, of several the least.", () -> {
            dueSent("", "", LEAST_BITS, 1);
            dueSent("stop;bits 9;", "", LEAST_BITS, 1);
            for (int bits = 1; bits <= 9; bits++) {
                dueSent("if 0;stop;bits 1;", many("y;", bits - 1) + "n;", LEAST_BITS, bits);
                dueSent("if 0;stop;bits 9;", many("y;", bits - 1) + "n;", LEAST_BITS, bits);
            }
            // two MAPS of 5, or of 9 and 1
            dueSent("if 0;stop;", many("y;", 9) + "n;", LEAST_BITS, 5);
            // ROOM as told: of 1 and 2 some are DROPPED: 26, 28, 46
            dueSent("if 0;stop;room 3;rate 9;", many("y;", 5) + "n;", LEAST_BITS, 1);
            // DEEP as told: without returns in the MAP there are no bits
            dueSent(NEST + "deep 3;", "", LEAST_BITS, 3);
            dueSent(NEST + "deep 0;", "", LEAST_BITS, 1);
        });
        Sentences.holds("Term 5, Promise 16",
                "WORST: the PACKET, lost alone, by which fewest are REBUILT, of several the least (no"
                + " PACKETS: none).", () -> {
            dueSent("", "", WORST, NONE);
            dueSent("stop;from 1;", "", WORST, NONE);
            dueSent("stop;", "", WORST, 0);
            // 0 1 | 2 3 | 4: lost are 2, 4, 3, 1
            dueSent("plain;plain;plain;plain;stop;sync 2;", "", WORST, 1);
            // 20 | 1: lost are 20, 21, 1
            dueSent(many("plain;", 21), "", WORST, 1);
            // the STEPS at 0 are in PIECES of their own, the last 80 in one: number 120
            dueSent("plain;mode 1;if 0;mode 0;jump 2;only 0;sync 99;", many("y;", 59) + "n;", PACKETS, 122);
            dueSent("plain;mode 1;if 0;mode 0;jump 2;only 0;sync 99;", many("y;", 59) + "n;", WORST, 120);
        });
    }

    private static void dueRatio(String code, int numerator, int denominator) {
        dueSent(code, "", NUMERATOR, numerator);
        dueSent(code, "", DENOMINATOR, denominator);
    }

    private static void dueKinds(String code, String drive, int... kinds) {
        int sum = 0;
        for (int i = 0; i < 6; i++) {
            dueSent(code, drive, 10 + i, kinds[i]);
            sum += kinds[i];
        }
        dueSent(code, drive, PACKETS, sum);
    }

    // Promises 15, 16

    private static void answersOfPackets() {
        Sentences.holds("Promise 15",
                "Of PACKET k, what 0: 0 SYNC, 1 MAP, 2 GOTO, 3 OFF, 4 END, 5 OVER,", () -> {
            dueWhat("stop;", "", 0, 0, 4);
            dueWhat("if 1;via;stop;to 1;", "y;go 2;", 0, 0, 1, 2, 3);
            dueWhat(FULL, many("y;", 7) + "n;", 0, 0, 1, 1, 1, 5, 0, 4);
        });
        Sentences.holds("Promise 15",
                "1: its ADDRESS, bits of a MAP (the first one is 1 of the number), COUNT of OFF, END (0 of"
                + " OVER),", () -> {
            dueWhat("jump 39;" + many("stop;", 38) + "jump 39;from 39;sync 99;", "", 1, 39, 39, 39, 1);
            dueWhat("if 1;jump 0;sync 99;", "y;n;n;n;n;n;", 1, 0, 1, 13);
            dueWhat("if 1;jump 0;sync 99;", "n;n;n;n;n;y;", 1, 0, 32, 13);
            dueWhat("if 1;jump 0;sync 99;bits 9;", many("y;", 9), 1, 0, 511, 19);
            dueWhat("if 1;jump 0;sync 99;bits 9;", many("n;", 8) + "y;", 1, 0, 256, 19);
            dueWhat("if 1;jump 0;sync 99;bits 9;", many("n;", 9), 1, 0, 0, 19);
            dueWhat("via;", "go 39;", 1, 0, 39, 1);
            dueWhat("plain;plain;stop;to 1;", "", 1, 0, 2);
            dueWhat(FULL, many("y;", 7) + "n;", 1, 0, 1, 1, 1, 0, 1, 1);
        });
        Sentences.holds("Promise 15",
                "2: COUNT of SYNC, how many bits of a MAP, digits of GOTO (0 of others),", () -> {
            dueWhat("jump 0;sync 99;", "", 2, 0, 99, 99, 0);
            dueWhat("if 1;jump 0;sync 99;bits 9;", many("n;", 10), 2, 0, 9, 1, 0);
            dueWhat("via;", "go 7;", 2, 0, 1, 0);
            dueWhat("via;", "go 8;", 2, 0, 2, 0);
            dueWhat("plain;plain;stop;to 1;", "", 2, 0, 0);
            dueWhat(FULL, many("y;", 7) + "n;", 2, 0, 1, 1, 1, 0, 0, 0);
        });
        Sentences.holds("Promise 15", "3: BITS OF it,", () -> {
            dueWhat("stop;", "", 3, 16, 10);
            dueWhat("if 1;via;stop;to 1;", "y;go 2;", 3, 16, 5, 7, 10);
            dueWhat(FULL, many("y;", 7) + "n;", 3, 16, 5, 5, 5, 4, 16, 10);
        });
        Sentences.holds("Promise 15",
                "4: the STEP at which it was PUT (how many there are, behind the last one).", () -> {
            dueWhat("stop;", "", 4, 0, 1);
            dueWhat("if 1;stop;", "y;", 4, 0, 2, 2);
            dueWhat("jump 0;sync 99;", "", 4, 0, 99, 198, 200);
        });
        Sentences.holds("Promise 15",
                "NONE: not so many, there is none such (of either), or for another what.", () -> {
            TracePackets x = told("stop;", "");
            TracePackets none = told("", "");
            for (int what = 0; what < 5; what++) {
                for (int k : new int[] {2, 3, 100, -1, -2, LEAST, GREATEST}) {
                    due("packet " + k + ", " + what, NONE, x.packet(0, 0, k, what));
                }
                due("of no packets", NONE, none.packet(0, 0, 0, what));
                for (int number : new int[] {-1, -2, 1, 2, LEAST, GREATEST}) {
                    due("code " + number, NONE, x.packet(number, 0, 0, what));
                    due("drive " + number, NONE, x.packet(0, number, 0, what));
                }
            }
            for (int what : new int[] {-1, -2, 5, 6, 10, LEAST, GREATEST}) {
                due("what " + what, NONE, x.packet(0, 0, 0, what));
            }
        });
    }

    /** What is told of each PACKET, and that there are no more. */
    private static void dueWhat(String code, String drive, int what, int... want) {
        TracePackets x = told(code, drive);
        for (int k = 0; k < want.length; k++) {
            due("packet " + k + ", what " + what + " of '" + code + "' by '" + drive + "'", want[k], x.packet(0, 0, k, what));
        }
        due("packet behind the last, what " + what + " of '" + code + "'", NONE, x.packet(0, 0, want.length, what));
    }

    private static void answersOfSent() {
        Sentences.holds("Promise 16",
                "What 0: PACKETS, 1: SUM, 2, 3: N, D of RATIO (NONE), 4: DROPPED, 5: FULLEST, 6: GAP, 7:"
                + " LEAST, 8: WORST (NONE), 9: SAVED, 10 + i: how many of a kind, as in packet().", () -> {
            TracePackets x = told("", "");
            Checks.tell(x, CODE, "call 2;stop;if 3;ret;");
            Checks.tell(x, DRIVE, "y;");
            int[] empty = {0, 0, NONE, NONE, 0, 0, 0, 1, NONE, 0, 0, 0, 0, 0, 0, 0};
            // S0 M11 E4: 32 bits of 4 STEPS; with DEEP 0 S0 M1 G1 E4: 38; BITS 2
            int[] want = {3, 32, 8, 1, 0, 2, 0, 2, 0, 6, 1, 1, 0, 0, 1, 0};
            for (int what = 0; what < 16; what++) {
                due("of no instructions " + what, empty[what], x.sent(0, 0, what));
                due("sent " + what, want[what], x.sent(1, 1, what));
            }
            // what was sent by another RUN is not of this one
            TracePackets y = told(FULL, many("y;", 9) + "n;");
            Checks.tell(y, CODE, "stop;");
            // ten bits: in two MAPS of 5 bits nothing is DROPPED, 44 in all
            int[] full = {7, 56, 56, 11, 2, 3, 5, 5, 0, 0, 2, 4, 0, 0, 0, 1};
            int[] stop = {2, 26, 26, 1, 0, 2, 0, 1, 0, 0, 1, 0, 0, 0, 1, 0};
            for (int what = 0; what < 16; what++) {
                due("sent by what overflows " + what, full[what], y.sent(0, 0, what));
                due("sent by a stop " + what, stop[what], y.sent(1, 0, what));
            }
        });
        Sentences.holds("Promise 16", "-2: there is none such (of either), or for another what.", () -> {
            TracePackets x = told("stop;", "");
            for (int what = 0; what < 16; what++) {
                for (int number : new int[] {-1, -2, 1, 2, LEAST, GREATEST}) {
                    due("code " + number + ", what " + what, -2, x.sent(number, 0, what));
                    due("drive " + number + ", what " + what, -2, x.sent(0, number, what));
                }
                due("of a new object", -2, new TracePackets().sent(0, 0, what));
            }
            for (int what : new int[] {-1, -2, 16, 17, 100, LEAST, GREATEST}) {
                due("what " + what, -2, x.sent(0, 0, what));
            }
        });
    }
}
