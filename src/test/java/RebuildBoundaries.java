/** The boundary cases of what is REBUILT without PACKETS that are lost, and of what FITS a LOG. */
final class RebuildBoundaries {
    private static final int NONE = TracePackets.NONE;
    private static final int CODE = 0;
    private static final int DRIVE = 1;
    private static final int LOSS = 2;
    private static final int LOG = 3;
    private static final int LEAST = Integer.MIN_VALUE;
    private static final int GREATEST = Integer.MAX_VALUE;
    /** S0 S2 S4 E1: five STEPS, two for each SYNC. */
    private static final String SYNCS = "plain;plain;plain;plain;stop;sync 2;";
    /** S0 M1 G3 E4: at 0 1 2 3, the MAP tells 0, the GOTO 1 and 2, END 3. */
    private static final String KINDS = "if 1;plain;via;stop;";
    private static final String KINDS_DRIVE = "y;go 3;";
    /** S0 F2 S0 F2: at 0 1, then 2, which is not TRACED, and once more. */
    private static final String OFFS = "plain;jump 2;if 0;stop;to 1;";
    /** S0 M1 M1 M1, then BLIND, O S0 M1 at STEP 8, then BLIND. */
    private static final String FULL = "if 0;stop;bits 1;room 3;rate 2;";
    private static final String FULL_DRIVE = "y;".repeat(9) + "n;";
    /** 60 PIECES of one STEP at 0 (S F each), then 80 STEPS at 2 (S E): 122 PACKETS. */
    private static final String PIECES = "plain;mode 1;if 0;mode 0;jump 2;only 0;sync 99;";
    private static final String PIECES_DRIVE = "y;".repeat(59) + "n;";

    private RebuildBoundaries() { }

    static void all() {
        kindsOfPackets();
        goingOn();
        costs();
        fitting();
        answersOfRebuilt();
        answersOfFits();
    }

    private static void due(String call, long want, long got) {
        Checks.due(call, want, got);
    }

    private static TracePackets told(String code, String drive) {
        return Checks.told(code, drive);
    }

    private static String many(String part, int times) {
        return Checks.many(part, times);
    }

    /** What is REBUILT as a text: the ADDRESSES of each PIECE, with | between PIECES ('-' for one of no STEPS). */
    static String rebuiltOf(TracePackets x, int loss) {
        StringBuilder text = new StringBuilder();
        int k = 0;
        for (int p = 0; p < x.rebuilt(0, 0, loss, 1); p++) {
            text.append(p == 0 ? "" : " | ");
            int steps = x.rebuilt(0, 0, loss, 100 + p);
            text.append(steps == 0 ? "-" : "");
            for (int i = 0; i < steps; i++) {
                text.append(i == 0 ? "" : " ").append(x.rebuilt(0, 0, loss, 1000 + k));
                k++;
            }
        }
        due("all of them are in pieces", k, x.rebuilt(0, 0, loss, 0));
        return text.toString();
    }

    /** Without the PACKETS of a LOSS's text (null: none is lost). */
    private static void dueRebuilt(String code, String drive, String loss, String want) {
        TracePackets x = told(code, drive);
        if (loss != null) {
            due("loss '" + loss + "'", 0, Checks.tell(x, LOSS, loss));
        }
        Checks.due("rebuilt of '" + code + "' by '" + drive + "' without '" + loss + "'", want,
                rebuiltOf(x, loss == null ? NONE : 0));
    }

    private static void duePackets(String code, String drive, String want) {
        Checks.due("packets of '" + code + "'", want, PacketBoundaries.packetsOf(told(code, drive)));
    }

    // Term 4

    private static void kindsOfPackets() {
        Sentences.holds("Term 4, Promise 17",
                "What is REBUILT of PACKETS but those of a LOSS: it goes along the CODE, knowing an ADDRESS"
                + " or none (at first none).", () -> {
            duePackets(SYNCS, "", "S0,0@0 S2,2@2 S4,2@4 E1@5");
            dueRebuilt("", "", null, "");
            dueRebuilt("", "", "lose 0;", "");
            dueRebuilt(SYNCS, "", null, "0 1 2 3 4");
            dueRebuilt(SYNCS, "", "", "0 1 2 3 4");
            // PACKETS that are not; all of them
            dueRebuilt(SYNCS, "", "lose 4;lose 99;", "0 1 2 3 4");
            dueRebuilt(SYNCS, "", "lose 0;lose 1;lose 2;lose 3;", "");
            dueRebuilt(SYNCS, "", "lose 0;lose 1;lose 2;", "");
            // as many as a LOSS can have
            dueRebuilt("jump 0;sync 2;", "", "lose 0;lose 1;lose 2;lose 3;lose 4;lose 5;lose 6;lose 7;lose 8;lose 9;"
                    + "lose 10;lose 11;", many("0 ", 175) + "0");
        });
        Sentences.holds("Term 4, Promise 17",
                "SYNC: if it knows one, it goes on to COUNT; it knows that ADDRESS then, COUNT 0, SHADOW"
                + " empty, LAST it; if it knew none, a PIECE begins.", () -> {
            // knows none: what was counted ahead of it is not told
            dueRebuilt(SYNCS, "", "lose 0;", "2 3 4");
            dueRebuilt(SYNCS, "", "lose 0;lose 1;", "4");
            dueRebuilt(SYNCS, "", "lose 1;", "- | 4");
            // knows one: it goes on to COUNT, and the PIECE goes on
            dueRebuilt(SYNCS, "", "lose 2;", "0 1");
            dueRebuilt(SYNCS, "", "lose 3;", "0 1 2 3");
            // SHADOW empty: the ret is told by a GOTO
            duePackets("call 2;stop;plain;ret;sync 2;", "", "S0,0@0 S3,2@2 G1,1@2 E2@4");
            dueRebuilt("call 2;stop;plain;ret;sync 2;", "", null, "0 2 3 1");
            dueRebuilt("call 2;stop;plain;ret;sync 2;", "", "lose 0;", "3 1");
            // LAST: a digit alone is enough, though what was ahead was lost
            dueRebuilt("jump 8;" + many("stop;", 7) + "plain;via;stop;sync 2;", "go 10;", "lose 0;", "9 10");
        });
        Sentences.holds("Term 4, Promise 17",
                "MAP: it goes on, till all bits are used, one at each if, 1 at each ret (the ADDRESS on top"
                + " of the SHADOW).", () -> {
            // lost is what only END tells: all behind the last bit
            dueRebuilt("plain;if 3;plain;plain;stop;", "y;", "lose 2;", "0 1");
            dueRebuilt("plain;if 3;plain;plain;stop;", "y;", null, "0 1 3 4");
            dueRebuilt("plain;if 3;plain;plain;stop;", "n;", null, "0 1 2 3 4");
            dueRebuilt("call 2;stop;plain;ret;", "", "lose 2;", "0 2 3");
            // nothing but a call puts an ADDRESS upon the SHADOW
            dueRebuilt("call 2;stop;jump 3;ret;", "", null, "0 2 3 1");
            dueRebuilt("call 2;stop;if 4;stop;jump 5;ret;", "y;", null, "0 2 4 5 1");
            dueRebuilt("call 3;call 3;stop;ret;", "", null, "0 3 1 3 2");
            dueRebuilt("call 3;call 3;stop;ret;", "", "lose 2;", "0 3 1 3");
            // nine bits, and one
            dueRebuilt("if 1;jump 0;bits 9;sync 99;", many("y;", 9), "lose 2;", many("0 1 ", 8) + "0");
            dueRebuilt("if 1;jump 0;bits 9;sync 99;", "y;", "lose 2;", "0");
            // as deep as DEEP 4
            dueRebuilt("call 2;stop;call 4;ret;call 6;ret;call 8;ret;ret;deep 4;", "", null, "0 2 4 6 8 7 5 3 1");
        });
        Sentences.holds("Term 4, Promise 17",
                "GOTO: it goes on to a via or ret, and on to that ADDRESS.", () -> {
            dueRebuilt("via;stop;", "go 1;", "lose 2;", "0");
            dueRebuilt("plain;jump 2;via;stop;", "go 3;", "lose 2;", "0 1 2");
            dueRebuilt("call 2;stop;plain;ret;deep 0;", "", "lose 2;", "0 2 3");
            dueRebuilt("call 2;stop;plain;ret;deep 0;", "", null, "0 2 3 1");
            // to where there is no INSTRUCTION
            dueRebuilt("via;", "go 39;", null, "0");
            dueRebuilt("via;", "go 39;", "lose 2;", "0");
            // five calls with DEEP 4: the last ret is told by a GOTO
            dueRebuilt("call 2;stop;call 4;ret;call 6;ret;call 8;ret;call 10;ret;ret;deep 4;", "", null,
                    "0 2 4 6 8 10 9 7 5 3 1");
            // on its way to a via it keeps the SHADOW for a ret that the MAP tells
            dueRebuilt("call 2;stop;plain;via;ret;", "go 4;", null, "0 2 3 4 1");
            // behind a GOTO of a ret the SHADOW is as it was encoded
            dueRebuilt("call 4;call 4;call 4;stop;call 6;ret;ret;deep 1;", "", null, "0 4 6 5 1 4 6 5 2 4 6 5 3");
        });
        Sentences.holds("Term 4, Promise 17", "OFF, END: it goes on to COUNT, and knows none.", () -> {
            duePackets(OFFS, "y;n;", "S0,0@0 F2@2 S0,0@3 F2@5");
            dueRebuilt(OFFS, "y;n;", null, "0 1 | 0 1");
            dueRebuilt("plain;plain;stop;to 0;", "", null, "0");
            dueRebuilt("stop;", "", null, "0");
            // the greatest COUNT
            dueRebuilt("jump 0;sync 99;", "", null, many("0 ", 199) + "0");
            dueRebuilt("jump 0;sync 99;", "", "lose 0;lose 1;", "0 0");
        });
        Sentences.holds("Term 4, Promise 17", "OVER, a PACKET that is lost: it knows none.", () -> {
            duePackets(FULL, FULL_DRIVE, "S0,0@0 M1@0 M1@1 M1@2 O@8 S0,0@8 M1@8");
            dueRebuilt(FULL, FULL_DRIVE, null, "0 0 0 | 0");
            // each one lost alone
            String[] without = {"0", "- | 0", "0 | 0", "0 0 | 0", "0 0 0 | 0", "0 0 0", "0 0 0 | -"};
            for (int k = 0; k < without.length; k++) {
                dueRebuilt(FULL, FULL_DRIVE, "lose " + k + ";", without[k]);
            }
            // an OFF that is lost takes its STEPS along
            dueRebuilt(OFFS, "y;n;", "lose 1;", "- | 0 1");
            dueRebuilt(OFFS, "y;n;", "lose 3;", "0 1 | -");
        });
        Sentences.holds("Term 4, Promise 17", "(If it knows none, MAP, GOTO, OFF, END do nothing.)", () -> {
            duePackets(KINDS, KINDS_DRIVE, "S0,0@0 M1@2 G3,1@2 E4@4");
            dueRebuilt(KINDS, KINDS_DRIVE, null, "0 1 2 3");
            dueRebuilt(KINDS, KINDS_DRIVE, "lose 0;", "");
            dueRebuilt(KINDS, KINDS_DRIVE, "lose 1;", "-");
            dueRebuilt(KINDS, KINDS_DRIVE, "lose 2;", "0");
            dueRebuilt(KINDS, KINDS_DRIVE, "lose 3;", "0 1 2");
            dueRebuilt(OFFS, "y;n;", "lose 0;", "0 1");
            dueRebuilt(OFFS, "y;n;", "lose 2;", "0 1");
            dueRebuilt(OFFS, "y;n;", "lose 0;lose 2;", "");
        });
    }

    private static void goingOn() {
        Sentences.holds("Term 4, Promise 17",
                "Going on by a STEP, this is REBUILT, and it knows the ADDRESS behind it (as in a RUN; as the"
                + " MAP, the GOTO tell; SHADOW and LAST as above; to COUNT: COUNT STEPS are REBUILT since the"
                + " SYNC then, the ADDRESS behind the last one is not asked for).", () -> {
            // the last STEP is one that ENDS the RUN
            for (String code : new String[] {"stop;", "if 0;", "via;", "ret;", "plain;"}) {
                dueRebuilt(code, "", null, "0");
                dueRebuilt("plain;" + code, "", null, "0 1");
            }
            dueRebuilt("call 0;", "", null, many("0 ", 9) + "0");
            dueRebuilt("plain;if 0;stop;", "y;go 1;", null, "0 1 0 1");
            // the last of 200
            dueRebuilt("jump 1;jump 0;", "", null, many("0 1 ", 99) + "0 1");
            // COUNT is reached already by the MAP, by the GOTO
            dueRebuilt("if 0;", "n;", null, "0");
            dueRebuilt("jump 2;ret;call 1;", "", null, "0 2 1");
            dueRebuilt("if 1;plain;to 0;", "y;", null, "0");
        });
        Sentences.holds("Term 4, Promise 17",
                "PIECES: rows of STEPS that are REBUILT, one behind the other, each from a SYNC on at which"
                + " it knew none to where it knew none again (one of no STEPS, too).", () -> {
            dueRebuilt("stop;from 1;", "", null, "");
            dueRebuilt("stop;", "", "lose 0;", "");
            dueRebuilt("stop;", "", "lose 1;", "-");
            dueRebuilt(SYNCS, "", "lose 1;lose 3;", "- | -");
            dueRebuilt(OFFS, "y;n;", "lose 1;lose 3;", "- | -");
            dueRebuilt(PIECES, PIECES_DRIVE, null, many("0 | ", 60) + many("2 ", 79) + "2");
        });
    }

    // Term 5, of a LOSS

    private static void costs() {
        Sentences.holds("Term 5, Promise 18",
                "Of a LOSS: MISSED: ADDRESSES at which STEPS are TRACED, none of which is REBUILT, rising:"
                + " how many; the k-th.", () -> {
            dueMissed("", "", "");
            dueMissed(KINDS, KINDS_DRIVE, "");
            dueMissed(KINDS, KINDS_DRIVE, "lose 0;", 0, 1, 2, 3);
            dueMissed(KINDS, KINDS_DRIVE, "lose 2;", 1, 2, 3);
            dueMissed(KINDS, KINDS_DRIVE, "lose 3;", 3);
            // one of its STEPS is REBUILT
            dueMissed("if 0;stop;sync 2;", "y;y;y;n;", "lose 0;");
            // none of its STEPS is TRACED
            dueMissed(KINDS + "to 2;", KINDS_DRIVE, "lose 0;", 0, 1, 2);
            // no STEPS
            dueMissed("jump 2;stop;stop;", "", "lose 0;", 0, 2);
            // without a loss: what was DROPPED
            dueMissed(FULL, FULL_DRIVE, "", 1);
            int[] all = new int[40];
            for (int a = 0; a < 40; a++) {
                all[a] = a;
            }
            dueMissed(many("plain;", 40) + "sync 99;", "", "lose 1;", all);
        });
        Sentences.holds("Term 5, Promise 17", "COST: how many STEPS fewer are REBUILT than without any;", () -> {
            dueCost("", "", "lose 0;", 0);
            dueCost(SYNCS, "", "", 0);
            dueCost(SYNCS, "", "lose 99;", 0);
            dueCost(SYNCS, "", "lose 3;", 1);
            dueCost(SYNCS, "", "lose 0;", 2);
            dueCost(SYNCS, "", "lose 1;", 4);
            dueCost(SYNCS, "", "lose 0;lose 1;lose 2;", 5);
            // what was DROPPED costs nothing
            dueCost(FULL, FULL_DRIVE, "", 0);
            dueCost(FULL, FULL_DRIVE, "lose 0;", 3);
            dueCost("jump 0;sync 99;", "", "lose 0;lose 1;lose 2;", 200);
        });
    }

    private static void dueMissed(String code, String drive, String loss, int... missed) {
        TracePackets x = told(code, drive);
        Checks.tell(x, LOSS, loss);
        for (int number : loss.isEmpty() ? new int[] {0, NONE} : new int[] {0}) {
            String call = " of '" + code + "' without '" + loss + "'";
            due("missed" + call, missed.length, x.missed(0, 0, number, NONE));
            for (int k = 0; k < missed.length; k++) {
                due("missed " + k + call, missed[k], x.missed(0, 0, number, k));
            }
            due("no more missed" + call, NONE, x.missed(0, 0, number, missed.length));
        }
    }

    private static void dueCost(String code, String drive, String loss, int want) {
        TracePackets x = told(code, drive);
        Checks.tell(x, LOSS, loss);
        due("cost of '" + loss + "' to '" + code + "'", want, x.rebuilt(0, 0, 0, 2));
        due("cost of none to '" + code + "'", 0, x.rebuilt(0, 0, NONE, 2));
    }

    // Term 4, by a LOG

    private static void fitting() {
        Sentences.holds("Term 4, Promise 23",
                "By a LOG of a RUN: losses of one PACKET (any of the RUN's), or of none, FIT, if each ADDRESS"
                + " of a FACT is REBUILT just so often: how many; the k-th, rising, none (NONE) ahead of all;", () -> {
            // S0 M1 G3 E4: without 0, 1 nothing is REBUILT, without 2 0, without 3 0 1 2
            dueFits(KINDS, KINDS_DRIVE, "", NONE, 0, 1, 2, 3);
            dueFits(KINDS, KINDS_DRIVE, "saw 0 1;", NONE, 2, 3);
            dueFits(KINDS, KINDS_DRIVE, "saw 0 0;", 0, 1);
            dueFits(KINDS, KINDS_DRIVE, "saw 0 1;saw 1 0;", 2);
            dueFits(KINDS, KINDS_DRIVE, "saw 0 1;saw 1 1;saw 3 0;", 3);
            dueFits(KINDS, KINDS_DRIVE, "saw 3 1;", NONE);
            // one more, one fewer is not just so often
            dueFits(KINDS, KINDS_DRIVE, "saw 0 2;");
            dueFits(KINDS, KINDS_DRIVE, "saw 0 99;");
            // an ADDRESS twice: both hold, or none
            dueFits(KINDS, KINDS_DRIVE, "saw 3 1;saw 3 1;", NONE);
            dueFits(KINDS, KINDS_DRIVE, "saw 3 1;saw 3 0;");
            // no INSTRUCTION there: never
            dueFits(KINDS, KINDS_DRIVE, "saw 39 0;saw 3 1;", NONE);
            dueFits(KINDS, KINDS_DRIVE, "saw 39 1;");
            // eight FACTS: the last one decides
            dueFits(KINDS, KINDS_DRIVE, many("saw 0 1;", 7) + "saw 3 0;", 2, 3);
            // no PACKETS: none lost alone is left
            dueFits("", "", "", NONE);
            dueFits("stop;from 1;", "", "saw 0 0;", NONE);
            dueFits("stop;from 1;", "", "saw 0 1;");
            // as often as a LOG can tell; without a loss it is more often, 200 times
            dueFits("jump 0;sync 99;", "", "saw 0 99;", 2);
            dueFits("jump 0;sync 99;", "", "saw 0 98;");
            dueFits("jump 0;sync 99;", "", "saw 0 2;", 1);
            // PACKETS beyond those that a LOSS can have
            dueFits(PIECES, PIECES_DRIVE, "saw 2 0;", 120, 121);
        });
        Sentences.holds("Term 4, Promise 23",
                "ASK: the ADDRESS such that of all that FIT the greatest number by which it is REBUILT as"
                + " often is least, of several the least.", () -> {
            // 0: 1 0 0 1 1 (three as often), 1 and 2: 1 0 0 0 1 (three), 3: 1 0 0 0 0 (four)
            dueAsk(KINDS, KINDS_DRIVE, "", 0);
            // of NONE, 2, 3: 0: 1 1 1; 1 and 2: 1 0 1; 3: 1 0 0
            dueAsk(KINDS, KINDS_DRIVE, "saw 0 1;", 1);
            // of NONE, 3: only 3 tells them apart
            dueAsk(KINDS, KINDS_DRIVE, "saw 0 1;saw 1 1;", 3);
            // of one alone all are as good
            dueAsk(KINDS, KINDS_DRIVE, "saw 3 1;", 0);
            // of 0, 1 none tells them apart
            dueAsk(KINDS, KINDS_DRIVE, "saw 0 0;", 0);
            dueAsk(KINDS, KINDS_DRIVE, "saw 0 2;", NONE);
            dueAsk("", "", "", NONE);
            dueAsk("stop;from 1;", "", "", 0);
            // the last of 40 ADDRESSES
            dueAsk("via;" + many("stop;", 38) + "stop;", "go 39;", "saw 0 1;", 39);
        });
    }

    private static void dueFits(String code, String drive, String log, int... fits) {
        TracePackets x = told(code, drive);
        due("log '" + log + "'", 0, Checks.tell(x, LOG, log));
        String call = " '" + log + "' of '" + code + "'";
        due("how many fit" + call, fits.length, x.fits(0, 0, 0, 0));
        for (int k = 0; k < fits.length; k++) {
            due("the " + k + "-th that fits" + call, fits[k], x.fits(0, 0, 0, 10 + k));
        }
        due("no more fit" + call, -2, x.fits(0, 0, 0, 10 + fits.length));
    }

    private static void dueAsk(String code, String drive, String log, int want) {
        TracePackets x = told(code, drive);
        due("log '" + log + "'", 0, Checks.tell(x, LOG, log));
        due("ask by '" + log + "' of '" + code + "'", want, x.fits(0, 0, 0, 1));
    }

    // Promises 17, 18

    private static void answersOfRebuilt() {
        Sentences.holds("Promise 17",
                "REBUILT but for a LOSS (of NONE: none is lost), what 0: how many STEPS, 1: PIECES, 2: COST,"
                + " 100 + p: how many STEPS of a PIECE, 1000 + k: the ADDRESS of the k-th of all.", () -> {
            TracePackets x = told("jump 0;sync 99;", "");
            Checks.tell(x, LOSS, "");
            Checks.tell(x, LOSS, "lose 1;");
            int[][] want = {{200, 1, 0, 200}, {200, 1, 0, 200}, {2, 2, 198, 0, 2}};
            for (int loss = NONE; loss < 2; loss++) {
                int[] told = want[loss + 1];
                for (int what = 0; what < 3; what++) {
                    due("rebuilt without loss " + loss + ", " + what, told[what], x.rebuilt(0, 0, loss, what));
                }
                for (int p = 0; p < told[1]; p++) {
                    due("piece " + p + " without loss " + loss, told[3 + p], x.rebuilt(0, 0, loss, 100 + p));
                }
                due("the first without loss " + loss, 0, x.rebuilt(0, 0, loss, 1000));
                due("the last without loss " + loss, 0, x.rebuilt(0, 0, loss, 999 + told[0]));
            }
            TracePackets y = told(PIECES, PIECES_DRIVE);
            due("many pieces", 61, y.rebuilt(0, 0, NONE, 1));
            due("the last but one", 1, y.rebuilt(0, 0, NONE, 159));
            due("the last", 80, y.rebuilt(0, 0, NONE, 160));
            due("no more", NONE, y.rebuilt(0, 0, NONE, 161));
        });
        Sentences.holds("Promise 17",
                "NONE: not so many, there is none such (of any), or for another what.", () -> {
            TracePackets x = told("plain;stop;", "");
            Checks.tell(x, LOSS, "lose 0;");
            for (int what : new int[] {-1, -2, 3, 4, 10, 99, 101, 102, 356, 357, 999, 1002, 1003, 1200, 1201, LEAST, GREATEST}) {
                due("what " + what, NONE, x.rebuilt(0, 0, NONE, what));
            }
            for (int what : new int[] {100, 1000}) {
                due("of nothing rebuilt, what " + what, NONE, x.rebuilt(0, 0, 0, what));
            }
            for (int what : new int[] {0, 1, 2, 100, 1000}) {
                for (int number : new int[] {-2, -3, 1, 2, LEAST, GREATEST}) {
                    due("code " + number, NONE, x.rebuilt(number, 0, NONE, what));
                    due("drive " + number, NONE, x.rebuilt(0, number, NONE, what));
                    due("loss " + number, NONE, x.rebuilt(0, 0, number, what));
                }
                due("code -1", NONE, x.rebuilt(-1, 0, NONE, what));
                due("drive -1", NONE, x.rebuilt(0, -1, NONE, what));
                due("of a new object", NONE, new TracePackets().rebuilt(0, 0, NONE, what));
            }
        });
        Sentences.holds("Promise 18",
                "MISSED by a LOSS (of NONE: none is lost): how many (k NONE), or the k-th.", () -> {
            TracePackets x = told(KINDS, KINDS_DRIVE);
            Checks.tell(x, LOSS, "");
            Checks.tell(x, LOSS, "lose 3;");
            due("none is lost", 0, x.missed(0, 0, NONE, NONE));
            due("none is lost by loss 0", 0, x.missed(0, 0, 0, NONE));
            due("by loss 1", 1, x.missed(0, 0, 1, NONE));
            due("the first by loss 1", 3, x.missed(0, 0, 1, 0));
        });
        Sentences.holds("Promise 18", "NONE: not so many, or there is none such (of any).", () -> {
            TracePackets x = told(KINDS, KINDS_DRIVE);
            Checks.tell(x, LOSS, "lose 0;");
            for (int k : new int[] {4, 5, 40, -2, LEAST, GREATEST}) {
                due("missed " + k, NONE, x.missed(0, 0, 0, k));
            }
            due("none is missed", NONE, x.missed(0, 0, NONE, 0));
            for (int k = NONE; k < 1; k++) {
                for (int number : new int[] {-2, -3, 1, 2, LEAST, GREATEST}) {
                    due("code " + number, NONE, x.missed(number, 0, NONE, k));
                    due("drive " + number, NONE, x.missed(0, number, NONE, k));
                    due("loss " + number, NONE, x.missed(0, 0, number, k));
                }
                due("code -1", NONE, x.missed(-1, 0, 0, k));
                due("drive -1", NONE, x.missed(0, -1, 0, k));
                due("of a new object", NONE, new TracePackets().missed(0, 0, NONE, k));
            }
        });
    }

    // Promise 23

    private static void answersOfFits() {
        Sentences.holds("Promise 23",
                "What 0: how many FIT, 1: ASK (NONE: nothing FITS, or there are no INSTRUCTIONS), 10 + k: the"
                + " k-th.", () -> {
            dueFits("stop;", "", "", NONE, 0, 1);
            dueFits("stop;", "", "saw 0 2;");
            dueAsk("stop;", "", "", 0);
            dueAsk("stop;", "", "saw 0 2;", NONE);
            dueFits("bits 1;", "", "", NONE);
            dueAsk("bits 1;", "", "", NONE);
            dueAsk("bits 1;", "", "saw 0 1;", NONE);
            // as many as 168 PACKETS: 100 SYNCS, 67 GOTOS, END
            TracePackets x = told("call 2;jump 0;ret;deep 0;sync 2;", "");
            Checks.tell(x, LOG, "");
            due("packets", 168, x.sent(0, 0, 0));
            due("all fit", 169, x.fits(0, 0, 0, 0));
            for (int k = 0; k < 169; k++) {
                due("the " + k + "-th", k - 1, x.fits(0, 0, 0, 10 + k));
            }
            due("no more", -2, x.fits(0, 0, 0, 179));
        });
        Sentences.holds("Promise 23", "-2: there is none such (of any), or for another what.", () -> {
            TracePackets x = told("stop;", "");
            due("no log yet", -2, x.fits(0, 0, 0, 0));
            Checks.tell(x, LOG, "");
            for (int what : new int[] {-1, -2, 2, 3, 9, 13, 14, 300, LEAST, GREATEST}) {
                due("what " + what, -2, x.fits(0, 0, 0, what));
            }
            for (int what : new int[] {0, 1, 10}) {
                for (int number : new int[] {-1, -2, 1, 2, LEAST, GREATEST}) {
                    due("code " + number, -2, x.fits(number, 0, 0, what));
                    due("drive " + number, -2, x.fits(0, number, 0, what));
                    due("log " + number, -2, x.fits(0, 0, number, what));
                }
                due("of a new object", -2, new TracePackets().fits(0, 0, 0, what));
            }
            TracePackets y = new TracePackets();
            Checks.tell(y, CODE, "stop;");
            Checks.tell(y, LOG, "");
            due("no drive yet", -2, y.fits(0, 0, 0, 0));
            TracePackets z = new TracePackets();
            Checks.tell(z, DRIVE, "");
            Checks.tell(z, LOG, "");
            due("no code yet", -2, z.fits(0, 0, 0, 0));
        });
    }
}
