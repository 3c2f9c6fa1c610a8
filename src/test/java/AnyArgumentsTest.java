import java.util.NoSuchElementException;
import java.util.Random;

/** Any numbers in any state, any bytes on THE TAPE: nothing is thrown but by led(). */
public final class AnyArgumentsTest {
    private static final Check CHECK = new Check();
    private static final int[] EDGES = {Integer.MIN_VALUE, Integer.MIN_VALUE + 1, -100, -10, -2, -1, 0, 1, 2, 3, 4, 5,
        6, 7, 9, 10, 11, 12, 13, 20, 35, 36, 50, 55, 59, 60, 61, 65_536, 65_537, Integer.MAX_VALUE};
    private static final String BIG = "ring wide 6 high 6 marks 6;town p abcdef,fedcba,aabbcc,ddeeff,abcabc,defdef;"
        + "town q aaaaaa,bbbbbb,cccccc,dddddd,eeeeee,ffffff;town r ffffff,eeeeee,dddddd,cccccc,bbbbbb,aaaaaa;"
        + "town s abcdef,abcdef,abcdef,abcdef,abcdef,abcdef;town u aaaaaa,aaaaaa,aaaaaa,aaaaaa,aaaaaa,aaaaab;"
        + "town v cccccc,cccccc,cccccc,cccccc,cccccc,ccccca;copies p q by stain c;copies q r by unknown;"
        + "copies r s by sneeze b;copies s u by unknown;copies u p by stretch 7;copies v v by stain a;"
        + "guess stain a;guess swap a b;guess fold 3;guess shift 1 5;guess erase c;seen p 20 3 3 c;seen v 20 0 0 a";

    public static void main(String[] args) {
        Random random = new Random(5);
        for (int run = 0; run < 400; run++) {
            CHECK.part("run " + run);
            NineMaps x = new NineMaps();
            if (run % 2 == 0) {
                CHECK.due("ring", Check.ring(x, BIG), 6);
            }
            for (int i = 0; i < 150; i++) {
                any(x, random, run % 4 < 2);
            }
        }
        brokenTexts(random);
        CHECK.end();
    }

    private static int number(Random random, boolean near) {
        if (near && random.nextInt(8) > 0) {
            return random.nextInt(6);
        }
        return random.nextInt(10) == 0 ? random.nextInt() : EDGES[random.nextInt(EDGES.length)];
    }

    private static void any(NineMaps x, Random random, boolean near) {
        int[] n = new int[7];
        for (int i = 0; i < 7; i++) {
            n[i] = number(random, near);
        }
        int call = random.nextInt(38);
        boolean thrown = false;
        try {
            if (call < 19) {
                lower(x, call, n);
            } else {
                upper(x, call, n);
            }
        } catch (NoSuchElementException e) {
            thrown = call != 36;
        } catch (RuntimeException e) {
            thrown = true;
        }
        CHECK.due("call " + call + " of " + java.util.Arrays.toString(n) + " throws", thrown, false);
    }

    private static void lower(NineMaps x, int call, int[] n) {
        switch (call) {
            case 0: x.feed(n[0], n[1], n[2], n[3], n[4]); break;
            case 1: x.ring(n[0] < 0 || n[0] > 5 ? n[0] : -1); break;
            case 2: x.fault(); x.where(); break;
            case 3: x.copies(n[0]); break;
            case 4: x.error(n[0], n[1]); break;
            case 5: x.cell(n[0], n[1]); break;
            case 6: x.first(n[0], n[1]); break;
            case 7: x.after(n[0], n[1], n[2]); break;
            case 8: x.many(n[0], n[1], n[2]); break;
            case 9: x.unlike(n[0], n[1], n[2]); break;
            case 10: x.trueOnes(n[0], n[1]); break;
            case 11: x.when(n[0], n[1], n[2]); break;
            case 12: x.areas(n[0], n[1], n[2]); break;
            case 13: x.largest(n[0], n[1], n[2]); break;
            case 14: x.scale(n[0], n[1], n[2] > 1); break;
            case 15: x.round(n[0] > 1); break;
            case 16: x.origin(n[0], n[1], n[2]); break;
            case 17: x.blame(n[0], n[1], n[2]); break;
            default: x.loop(n[0]); x.depth(n[0]); break;
        }
    }

    private static void upper(NineMaps x, int call, int[] n) {
        switch (call) {
            case 19: x.strokes(n[0], n[1], n[2], n[3], n[4], n[5]); break;
            case 20: x.strokeAt(n[0], n[1], n[2], n[3], n[4], n[5], n[6]); break;
            case 21: x.ink(n[0], n[1], n[2]); break;
            case 22: x.judge(); break;
            case 23: x.fits(); break;
            case 24: x.fit(n[0], n[1]); break;
            case 25: x.surely(n[0]); break;
            case 26: x.rounds(n[0]); break;
            case 27: x.draw(n[0], n[1], n[2]); break;
            case 28: x.mend(n[0]); break;
            case 29: x.copy(n[0], n[1]); break;
            case 30: x.seed(n[0]); break;
            case 31: x.undo(); break;
            case 32: x.keep(); break;
            case 33: x.back(n[0]); break;
            case 36: x.led(n[0]); break;
            default: x.size(n[0]); x.trouble(); break;
        }
    }

    /** A good text with some bytes changed, cut anywhere: a RING, or a FAULT inside the text. */
    private static void brokenTexts(Random random) {
        CHECK.part("broken texts");
        String signs = "abpq 0129;,;,  ^{Z\u0000\u00ff";
        for (int i = 0; i < 20_000; i++) {
            StringBuilder text = new StringBuilder(BIG);
            for (int k = random.nextInt(4); k > 0; k--) {
                text.setCharAt(random.nextInt(text.length()), signs.charAt(random.nextInt(signs.length())));
            }
            if (random.nextInt(3) == 0) {
                int at = random.nextInt(text.length());
                text.delete(at, Math.min(text.length(), at + random.nextInt(12)));
            }
            if (random.nextInt(3) == 0) {
                text.setLength(random.nextInt(text.length()));
            }
            NineMaps x = new NineMaps();
            int towns = Check.ring(x, text.toString());
            boolean faulty = towns == NineMaps.NONE;
            CHECK.due("towns of " + text, faulty || towns >= 1 && towns <= 6, true);
            CHECK.due("fault of " + text, x.fault() >= 1 && x.fault() <= 7, faulty);
            CHECK.due("where in " + text, x.where() >= 0 && x.where() <= text.length(), faulty);
        }
    }
}
