import java.nio.charset.StandardCharsets;
import java.util.NoSuchElementException;

/** What the tests share: a count of wrong answers, and texts fed to THE TAPE. */
final class Check {
    private int wrong = 0;
    private int asked = 0;
    private String part = "";

    /** What the answers behind it belong to. */
    void part(String name) {
        part = name;
    }

    void due(String call, long got, long want) {
        asked++;
        if (got != want) {
            wrong++;
            System.out.println(part + ": " + call + " answered " + got + ", due is " + want);
        }
    }

    void due(String call, boolean got, boolean want) {
        due(call, got ? 1 : 0, want ? 1 : 0);
    }

    /** A call that was refused: its answer, and its number of TROUBLE. */
    void refused(String call, NineMaps x, long got, int trouble) {
        due(call, got, NineMaps.NONE);
        due(call + ", trouble()", x.trouble(), trouble);
    }

    void refused(String call, NineMaps x, boolean got, int trouble) {
        due(call, got, false);
        due(call + ", trouble()", x.trouble(), trouble);
    }

    void dueText(String call, String got, String want) {
        due(call + " is " + got + ", not " + want + ":", got.equals(want), true);
    }

    /** A text with a FAULT; a sign ^ stands ahead of the place of the fault, and isn't fed. */
    void fault(int number, String marked) {
        int place = marked.indexOf('^');
        String text = marked.substring(0, place) + marked.substring(place + 1);
        part(marked);
        NineMaps x = told("ring wide 2 high 2 marks 2;town p ab,ba");
        refused("ring", x, ring(x, text), 4);
        due("fault", x.fault(), number);
        due("where", x.where(), place);
        due("size(3), the RING stays", x.size(3), 1);
        due("size(11), THE TAPE is empty", x.size(11), 0);
    }

    /** A text without a FAULT: so many towns. */
    NineMaps good(String text, int towns) {
        part(text);
        NineMaps x = new NineMaps();
        due("ring", ring(x, text), towns);
        due("trouble", x.trouble(), 0);
        due("fault", x.fault(), 0);
        due("where", x.where(), NineMaps.NONE);
        return x;
    }

    void end() {
        if (wrong != 0) {
            System.out.println(wrong + " of " + asked + " answers are not as due");
            System.exit(1);
        }
        System.out.println(asked + " answers are as due");
    }

    /** Feeds a text, blanks behind it up to twenty bytes: its length. */
    static int feed(NineMaps x, String text) {
        byte[] bytes = text.getBytes(StandardCharsets.ISO_8859_1);
        for (int at = 0; at < bytes.length; at += 20) {
            int[] n = new int[5];
            for (int i = 0; i < 20; i++) {
                int b = at + i < bytes.length ? bytes[at + i] & 255 : ' ';
                n[i / 4] = n[i / 4] << 8 | b;
            }
            x.feed(n[0], n[1], n[2], n[3], n[4]);
        }
        return bytes.length;
    }

    static int ring(NineMaps x, String text) {
        return x.ring(feed(x, text));
    }

    /** A town's map behind so many rounds, row by row. */
    static String map(NineMaps x, int t, int n) {
        StringBuilder text = new StringBuilder();
        for (int row = 0; row < x.size(1); row++) {
            text.append(row == 0 ? "" : ",");
            for (int column = 0; column < x.size(0); column++) {
                text.append((char) ('a' + x.after(t, 10 * column + row, n)));
            }
        }
        return text.toString();
    }

    static boolean ledThrows(NineMaps x, int i) {
        try {
            x.led(i);
        } catch (NoSuchElementException e) {
            return true;
        }
        return false;
    }

    /** A new object with a RING. */
    static NineMaps told(String text) {
        NineMaps x = new NineMaps();
        if (ring(x, text) == NineMaps.NONE) {
            throw new IllegalArgumentException(x.fault() + " at " + x.where() + " in " + text);
        }
        return x;
    }
}
