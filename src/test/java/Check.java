import java.nio.charset.StandardCharsets;

/** What the tests share: a count of wrong answers, and texts fed to THE TAPE. */
final class Check {
    private int wrong = 0;
    private int asked = 0;
    private String part = "";

    /** What the answers behind it belong to. */
    void part(String name) {
        part = name;
    }

    void due(String call, long got, long want) {
        asked++;
        if (got != want) {
            wrong++;
            System.out.println(part + ": " + call + " answered " + got + ", due is " + want);
        }
    }

    void due(String call, boolean got, boolean want) {
        due(call, got ? 1 : 0, want ? 1 : 0);
    }

    /** A call that was refused: its answer, and its number of TROUBLE. */
    void refused(String call, NineMaps x, long got, int trouble) {
        due(call, got, NineMaps.NONE);
        due(call + ", trouble()", x.trouble(), trouble);
    }

    void refused(String call, NineMaps x, boolean got, int trouble) {
        due(call, got, false);
        due(call + ", trouble()", x.trouble(), trouble);
    }

    void end() {
        if (wrong != 0) {
            System.out.println(wrong + " of " + asked + " answers are not as due");
            System.exit(1);
        }
        System.out.println(asked + " answers are as due");
    }

    /** Feeds a text, blanks behind it up to twenty bytes: its length. */
    static int feed(NineMaps x, String text) {
        byte[] bytes = text.getBytes(StandardCharsets.ISO_8859_1);
        for (int at = 0; at < bytes.length; at += 20) {
            int[] n = new int[5];
            for (int i = 0; i < 20; i++) {
                int b = at + i < bytes.length ? bytes[at + i] & 255 : ' ';
                n[i / 4] = n[i / 4] << 8 | b;
            }
            x.feed(n[0], n[1], n[2], n[3], n[4]);
        }
        return bytes.length;
    }

    static int ring(NineMaps x, String text) {
        return x.ring(feed(x, text));
    }

    /** A new object with a RING. */
    static NineMaps told(String text) {
        NineMaps x = new NineMaps();
        if (ring(x, text) == NineMaps.NONE) {
            throw new IllegalArgumentException(x.fault() + " at " + x.where() + " in " + text);
        }
        return x;
    }
}
