import java.nio.charset.StandardCharsets;

/** What the tests share: counting what is not as due, and telling texts to an object by feed() and end(). */
final class Checks {
    private static int passed = 0;
    private static int failed = 0;
    private static String topic = "";

    private Checks() { }

    static void due(String call, long want, long got) {
        if (want == got) {
            passed++;
            return;
        }
        failed++;
        if (failed <= 40) {
            System.out.println(topic + call + " answered " + got + ", due is " + want);
        }
    }

    static void due(String call, boolean want, boolean got) {
        due(call, want ? 1 : 0, got ? 1 : 0);
    }

    static void due(String call, String want, String got) {
        boolean same = want.equals(got);
        due(same ? call : call + " ('" + got + "', not '" + want + "')", true, same);
    }

    /** What stands ahead of each call that is told from now on. */
    static void topic(String words) {
        topic = words;
    }

    /** How many answers were looked at. */
    static int made() {
        return passed + failed;
    }

    /** Prints the counts: ends the program with 1 if anything was not as due. */
    static void close(String test) {
        System.out.println(test + ": " + passed + " passed, " + failed + " failed");
        if (failed != 0 || passed == 0) {
            System.exit(1);
        }
    }

    /** The text as rows of five numbers, filled up with blanks. */
    static int[][] rows(String text) {
        byte[] bytes = text.getBytes(StandardCharsets.ISO_8859_1);
        int[][] rows = new int[(bytes.length + 19) / 20][5];
        for (int i = 0; i < rows.length * 20; i++) {
            int sign = i < bytes.length ? bytes[i] & 255 : 32;
            rows[i / 20][i % 20 / 4] = rows[i / 20][i % 20 / 4] << 8 | sign;
        }
        return rows;
    }

    /** Puts a text alone on the tape. */
    static void tape(TracePackets x, String text) {
        x.end(0);
        for (int[] row : rows(text)) {
            x.feed(row[0], row[1], row[2], row[3], row[4]);
        }
        x.end(text.length());
    }

    /** A new object with one CODE and one DRIVE. */
    static TracePackets told(String code, String drive) {
        TracePackets x = new TracePackets();
        due("code '" + code + "'", 0, tell(x, 0, code));
        due("drive '" + drive + "'", 0, tell(x, 1, drive));
        return x;
    }

    static String many(String part, int times) {
        return part.repeat(times);
    }

    static int tell(TracePackets x, int sort, String text) {
        return tellAt(x, sort, TracePackets.NONE, text);
    }

    static int tellAt(TracePackets x, int sort, int at, String text) {
        tape(x, text);
        return x.text(sort, at);
    }
}
