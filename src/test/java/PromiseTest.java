/** Each promise of the document, with answers worked out by hand. */
public final class PromiseTest {
    private static final Check CHECK = new Check();
    private static final int NONE = NineMaps.NONE;

    /** Two that copy each other, and one that copies the first of them. */
    private static final String THREE = "ring wide 3 high 2 marks 3;town p aba,cab;town q bbb,aca;town r aaa,aaa;"
        + "copies p q by turn;copies q p by swap a b;copies r p by blot c 1 0";

    public static void main(String[] args) {
        newObject();
        feed();
        ring();
        ringStays();
        faultAndWhere();
        copies();
        error();
        cellAndFirst();
        after();
        sneezes();
        many();
        unlikeAndTrueOnes();
        when();
        areasAndLargest();
        scale();
        round();
        origin();
        blame();
        loopAndDepth();
        strokes();
        ink();
        judge();
        fits();
        rounds();
        draw();
        mend();
        copy();
        seed();
        undo();
        keepAndBack();
        led();
        size();
        trouble();
        CHECK.end();
    }

    /** A town q that copies p, 4 wide and 3 high, by an ERROR. */
    private static NineMaps by(String error) {
        return Check.told("ring wide 4 high 3 marks 4;town p abcd,bacc,ddab;town q aaaa,aaaa,aaaa;copies q p by " + error);
    }

    private static void newObject() {
        CHECK.part("promise 1");
        NineMaps x = new NineMaps();
        CHECK.due("trouble", x.trouble(), 0);
        CHECK.due("fault", x.fault(), 0);
        CHECK.due("where", x.where(), NONE);
        for (int what = 0; what <= 11; what++) {
            CHECK.due("size " + what, x.size(what), 0);
        }
        CHECK.due("led", Check.ledThrows(x, 0), true);
        CHECK.refused("copies", x, x.copies(0), 1);
        CHECK.refused("error", x, x.error(0, 0), 1);
        CHECK.refused("cell", x, x.cell(0, 0), 1);
        CHECK.refused("first", x, x.first(0, 0), 1);
        CHECK.refused("after", x, x.after(0, 0, 99), 1);
        CHECK.refused("many", x, x.many(0, 0, 99), 1);
        CHECK.refused("unlike", x, x.unlike(0, 0, 99), 1);
        CHECK.refused("trueOnes", x, x.trueOnes(0, 99), 1);
        CHECK.refused("when", x, x.when(0, 0, 0), 1);
        CHECK.refused("areas", x, x.areas(0, 0, 0), 1);
        CHECK.refused("largest", x, x.largest(0, 0, 0), 1);
        CHECK.refused("scale", x, x.scale(0, 99, true), 1);
        CHECK.refused("round", x, x.round(false), 1);
        CHECK.refused("origin", x, x.origin(0, 0, 99), 1);
        CHECK.refused("blame", x, x.blame(0, 0, 99), 1);
        CHECK.refused("loop", x, x.loop(0), 1);
        CHECK.refused("depth", x, x.depth(0), 1);
        CHECK.refused("strokes", x, x.strokes(0, 0, 0, 0, 0, 99), 1);
        CHECK.refused("strokeAt", x, x.strokeAt(0, 0, 0, 0, 0, 99, 0), 1);
        CHECK.refused("ink", x, x.ink(0, 0, 0), 1);
        CHECK.refused("judge", x, x.judge(), 1);
        CHECK.refused("fits", x, x.fits(), 1);
        CHECK.refused("fit", x, x.fit(0, 0), 1);
        CHECK.refused("surely", x, x.surely(0), 1);
        CHECK.refused("undo", x, x.undo(), 6);
        CHECK.refused("rounds", x, x.rounds(0), 1);
        CHECK.refused("draw", x, x.draw(0, 0, 0), 1);
        CHECK.refused("undo", x, x.undo(), 6);
        CHECK.refused("mend", x, x.mend(0), 1);
        CHECK.refused("undo", x, x.undo(), 6);
        CHECK.refused("copy", x, x.copy(0, 0), 1);
        CHECK.refused("undo", x, x.undo(), 6);
        CHECK.refused("seed", x, x.seed(-1), 1);
        CHECK.refused("undo", x, x.undo(), 6);
        CHECK.refused("keep", x, x.keep(), 1);
        CHECK.refused("undo", x, x.undo(), 6);
        CHECK.refused("back", x, x.back(0), 1);
    }

    private static void feed() {
        CHECK.part("promise 2");
        NineMaps x = new NineMaps();
        CHECK.refused("undo", x, x.undo(), 6);
        for (int i = 1; i <= 45; i++) {
            CHECK.due("feed " + i, x.feed(0x20202020, 0x20202020, 0x20202020, 0x20202020, -1), 20 * i);
        }
        CHECK.due("feed of more than 900", x.feed(0, 0, 0, 0, 0), NONE);
        CHECK.due("size 11", x.size(11), 900);
        CHECK.due("trouble is of another call", x.trouble(), 6);
        CHECK.refused("ring", x, x.ring(900), 4);
        CHECK.due("the first byte that begins no TOKEN", x.where(), 16);
        CHECK.due("feed", x.feed(0x72696e67, 0x20776964, 0x65203720, 0x20202020, 0x20202020), 20);
        CHECK.refused("ring", x, x.ring(20), 4);
        CHECK.due("the highest byte first", x.where(), 10);
        CHECK.due("fault", x.fault(), 4);
    }

    private static void ring() {
        CHECK.part("promise 3");
        NineMaps x = new NineMaps();
        CHECK.refused("ring of more than there is", x, x.ring(1), 2);
        int n = Check.feed(x, "ring wide 3 high 2 marks 4;town p abc,dca;town q aaa,bbb;junk!");
        CHECK.refused("ring", x, x.ring(-1), 2);
        CHECK.refused("ring", x, x.ring(x.size(11) + 1), 2);
        CHECK.due("the tape stays", x.size(11), 80);
        CHECK.due("ring of the first bytes", x.ring(n - 6), 2);
        CHECK.due("trouble", x.trouble(), 0);
        CHECK.due("the tape is empty", x.size(11), 0);
        CHECK.dueText("p", Check.map(x, 0, 0), "abc,dca");
        CHECK.dueText("q", Check.map(x, 1, 0), "aaa,bbb");
        x.draw(0, 0, 1);
        x.rounds(3);
        x.seed(9);
        x.keep();
        CHECK.due("ring", Check.ring(x, "ring wide 2 high 2 marks 2;town p ab,ba"), 1);
        CHECK.due("SEED", x.size(8), 0);
        CHECK.due("ROUNDS", x.size(7), 0);
        CHECK.due("ACTS", x.size(9), 0);
        CHECK.due("KEEPS", x.size(10), 0);
        CHECK.refused("undo", x, x.undo(), 6);
        CHECK.refused("back", x, x.back(0), 1);
        CHECK.dueText("p", Check.map(x, 0, 0), "ab,ba");
        CHECK.due("nobody is led", Check.ledThrows(x, 0), true);
    }

    private static void ringStays() {
        CHECK.part("promise 3, 4 refuses");
        NineMaps x = Check.told(THREE + ";guess true;seen p 1 0 0 b");
        x.draw(0, 0, 2);
        x.seed(77);
        x.keep();
        x.rounds(1);
        String before = Check.map(x, 0, 0) + Check.map(x, 1, 0) + Check.map(x, 2, 0);
        CHECK.refused("ring", x, Check.ring(x, "ring wide 2 high 2 marks 2;town z ab,ba;copies z z by tr"), 4);
        CHECK.due("the tape is empty", x.size(11), 0);
        CHECK.dueText("NOW", Check.map(x, 0, 0) + Check.map(x, 1, 0) + Check.map(x, 2, 0), before);
        int[] sizes = {3, 2, 3, 3, 3, 1, 1, 1, 77, 2, 1};
        for (int what = 0; what < sizes.length; what++) {
            CHECK.due("size " + what, x.size(what), sizes[what]);
        }
        CHECK.due("undo", x.undo(), true);
        CHECK.due("back", x.back(0), true);
        CHECK.due("FIRST", x.first(0, 0), 0);
    }

    private static void faultAndWhere() {
        CHECK.part("promises 4, 5");
        NineMaps x = new NineMaps();
        CHECK.refused("ring", x, Check.ring(x, "ring wide 7"), 4);
        CHECK.due("fault", x.fault(), 4);
        CHECK.due("where", x.where(), 10);
        CHECK.due("size and feed aren't refused", x.size(99) + x.feed(0, 0, 0, 0, 0), 19);
        CHECK.due("where still", x.where(), 10);
        CHECK.refused("ring", x, x.ring(99), 2);
        CHECK.due("where", x.where(), NONE);
        CHECK.due("fault of the one ahead of it", x.fault(), 4);
        CHECK.refused("ring", x, x.ring(20), 4);
        CHECK.due("where of the first byte", x.where(), 0);
        CHECK.due("fault", x.fault(), 1);
        CHECK.refused("copies", x, x.copies(0), 1);
        CHECK.due("where behind another refused call", x.where(), NONE);
        CHECK.due("fault still", x.fault(), 1);
        CHECK.due("ring", Check.ring(x, THREE), 3);
        CHECK.due("fault", x.fault(), 0);
        CHECK.due("where", x.where(), NONE);
        CHECK.refused("ring", x, Check.ring(x, "ring"), 4);
        CHECK.due("where", x.where(), 4);
        CHECK.due("copies", x.copies(0), 1);
        CHECK.due("where behind a call that may be refused but wasn't", x.where(), NONE);
    }

    private static void copies() {
        CHECK.part("promise 6");
        NineMaps x = Check.told(THREE + ";town s aaa,aaa");
        CHECK.due("p", x.copies(0), 1);
        CHECK.due("q", x.copies(1), 0);
        CHECK.due("r", x.copies(2), 0);
        CHECK.due("s", x.copies(3), -2);
        CHECK.due("trouble", x.trouble(), 0);
        CHECK.refused("copies", x, x.copies(4), 1);
        CHECK.refused("copies", x, x.copies(-1), 1);
        x.copy(3, 3);
        CHECK.due("s copies itself", x.copies(3), 3);
    }

    private static void error(String error, int sort, int a, int b, int c) {
        NineMaps x = by(error);
        int[] want = {sort, a, b, c};
        for (int what = 0; what < 4; what++) {
            CHECK.due(error + ", " + what, x.error(1, what), want[what]);
        }
    }

    private static void error() {
        CHECK.part("promise 7");
        error("true", 0, -2, -2, -2);
        error("blot d 3 2", 1, 3, 3, 2);
        error("fold 3", 2, 3, -2, -2);
        error("shift 5 4", 3, 5, 4, -2);
        error("turn", 4, -2, -2, -2);
        error("swap d b", 5, 3, 1, -2);
        error("stain c", 6, 2, -2, -2);
        error("erase b", 7, 1, -2, -2);
        error("stretch 9", 8, 9, -2, -2);
        error("sneeze d", 9, 3, -2, -2);
        error("unknown", 10, -2, -2, -2);
        NineMaps x = by("shift 0 0");
        CHECK.due("shift 0", x.error(1, 1), 0);
        CHECK.due("of one that copies nobody", x.error(0, 0), 0);
        CHECK.due("of one that copies nobody", x.error(0, 1), -2);
        CHECK.refused("error", x, x.error(2, 0), 1);
        CHECK.refused("error", x, x.error(1, 4), 1);
        CHECK.refused("error", x, x.error(1, -1), 1);
        x.mend(1);
        CHECK.due("mended", x.error(1, 0), 0);
        CHECK.due("mended", x.error(1, 1), -2);
    }

    private static void cellAndFirst() {
        CHECK.part("promises 8, 9");
        NineMaps x = by("turn");
        CHECK.due("cell", x.cell(0, 30), 3);
        CHECK.due("cell", x.cell(0, 2), 3);
        CHECK.due("cell", x.cell(0, 31), 2);
        x.draw(0, 31, 0);
        CHECK.due("cell NOW", x.cell(0, 31), 0);
        CHECK.due("cell FIRST", x.first(0, 31), 2);
        x.rounds(1);
        CHECK.due("cell NOW", x.cell(1, 1), 0);
        CHECK.due("cell NOW", x.cell(1, 0), 1);
        CHECK.due("cell FIRST", x.first(1, 0), 0);
        int[] none = {-1, 3, 9, 40, 33, -10, Integer.MAX_VALUE, Integer.MIN_VALUE};
        for (int place : none) {
            CHECK.refused("cell " + place, x, x.cell(0, place), 1);
            CHECK.refused("first " + place, x, x.first(0, place), 1);
        }
        CHECK.refused("cell", x, x.cell(2, 0), 1);
        CHECK.refused("first", x, x.first(-1, 0), 1);
    }

    private static void after(String error, String want) {
        NineMaps x = by(error);
        CHECK.dueText(error + " behind 0", Check.map(x, 1, 0), "aaaa,aaaa,aaaa");
        CHECK.dueText(error + " behind 1", Check.map(x, 1, 1), want);
        CHECK.dueText(error + ", the copied one", Check.map(x, 0, 1), "abcd,bacc,ddab");
        x.rounds(1);
        CHECK.dueText(error + ", a round gone by", Check.map(x, 1, 0), want);
    }

    private static void after() {
        CHECK.part("promise 10");
        after("true", "abcd,bacc,ddab");
        after("unknown", "abcd,bacc,ddab");
        after("blot c 1 2", "abcd,bacc,dcab");
        after("fold 1", "aaaa,bbbb,dddd");
        after("fold 2", "abba,baab,dddd");
        after("fold 3", "abcc,bacc,ddaa");
        after("shift 0 0", "abcd,bacc,ddab");
        after("shift 1 0", "dabc,cbac,bdda");
        after("shift 0 1", "ddab,abcd,bacc");
        after("shift 5 4", "bdda,dabc,cbac");
        after("turn", "badd,ccab,dcba");
        after("swap a c", "cbad,bcaa,ddcb");
        after("stain a", "aacd,aaac,daaa");
        after("erase c", "abad,baaa,ddab");
        after("erase a", "abcd,bacc,ddab");
        after("stretch 5", "aabb,aabb,bbaa");
        after("stretch 9", "aabc,aabc,bbac");
        after("sneeze d", "abdd,bacc,ddab");
        NineMaps x = Check.told(THREE);
        CHECK.dueText("at once", Check.map(x, 0, 1), "aca,bbb");
        CHECK.dueText("at once", Check.map(x, 1, 1), "bab,cba");
        CHECK.dueText("behind two", Check.map(x, 0, 2), "abc,bab");
        x.after(0, 0, 60);
        CHECK.due("behind 60", x.trouble(), 0);
        CHECK.refused("after", x, x.after(0, 0, 61), 2);
        CHECK.refused("after", x, x.after(0, 0, -1), 2);
        CHECK.refused("after", x, x.after(3, 0, 61), 1);
        CHECK.refused("after", x, x.after(0, 2, 61), 1);
    }

    /** SEED 0 goes on as 74, 5,624, 28,652; of 12 places 2, 8, 8. */
    private static void sneezes() {
        CHECK.part("sneezes");
        NineMaps x = Check.told("ring wide 4 high 3 marks 2;town p aaaa,aaaa,aaaa;town q aaaa,aaaa,aaaa;"
            + "town r aaaa,aaaa,aaaa;copies r p by sneeze b;copies q p by sneeze b");
        CHECK.dueText("q, by its number the first", Check.map(x, 1, 1), "aaba,aaaa,aaaa");
        CHECK.dueText("r", Check.map(x, 2, 1), "aaaa,aaaa,baaa");
        CHECK.dueText("q", Check.map(x, 1, 2), "aaaa,aaaa,baaa");
        CHECK.due("only looked at", x.size(8), 0);
        x.rounds(1);
        CHECK.due("SEED", x.size(8), 5624);
        CHECK.dueText("SEED goes on as it is", Check.map(x, 1, 1), "aaaa,aaaa,baaa");
        x.seed(65_536);
        x.rounds(1);
        CHECK.due("SEED, two draws", x.size(8), (75 * ((75 * 65_536 + 74) % 65_537) + 74) % 65_537);
        x.mend(1);
        x.seed(0);
        CHECK.dueText("who is mended doesn't draw", Check.map(x, 2, 1), "aaba,aaaa,aaaa");
        NineMaps y = Check.told("ring wide 4 high 3 marks 2;town p aaaa,aaaa,aaaa;copies p p by sneeze b");
        CHECK.dueText("each round draws", Check.map(y, 0, 2), "aaba,aaaa,baaa");
    }

    private static void many() {
        CHECK.part("promise 11");
        NineMaps x = by("stain a");
        CHECK.due("NOW", x.many(1, 0, 0), 12);
        CHECK.due("NOW", x.many(1, 1, 0), 0);
        CHECK.due("behind 1", x.many(1, 0, 1), 8);
        CHECK.due("behind 1", x.many(1, 3, 1), 2);
        CHECK.due("behind 60", x.many(1, 2, 60), 2);
        CHECK.refused("many", x, x.many(2, 0, 0), 1);
        CHECK.refused("many", x, x.many(0, 4, 0), 1);
        CHECK.refused("many", x, x.many(0, -1, 99), 1);
        CHECK.refused("many", x, x.many(0, 0, 61), 2);
        CHECK.refused("many", x, x.many(0, 0, -1), 2);
    }

    private static void unlikeAndTrueOnes() {
        CHECK.part("promises 12, 13");
        NineMaps x = by("swap a c");
        CHECK.due("unlike NOW", x.unlike(0, 1, 0), 9);
        CHECK.due("unlike behind 1", x.unlike(0, 1, 1), 6);
        CHECK.due("unlike behind 1", x.unlike(1, 0, 60), 6);
        CHECK.due("unlike itself", x.unlike(1, 1, 1), 0);
        CHECK.due("true ones NOW", x.trueOnes(1, 0), 12);
        CHECK.due("true ones behind 1", x.trueOnes(1, 1), 3);
        x.draw(0, 0, 1);
        CHECK.due("true ones of p", x.trueOnes(0, 60), 11);
        x.rounds(1);
        CHECK.due("true ones are by FIRST", x.trueOnes(1, 0), 3);
        CHECK.refused("unlike", x, x.unlike(2, 0, 0), 1);
        CHECK.refused("unlike", x, x.unlike(0, 2, 61), 1);
        CHECK.refused("unlike", x, x.unlike(0, -1, 0), 1);
        CHECK.refused("unlike", x, x.unlike(0, 0, 61), 2);
        CHECK.refused("unlike", x, x.unlike(0, 0, -1), 2);
        CHECK.refused("trueOnes", x, x.trueOnes(2, 61), 1);
        CHECK.refused("trueOnes", x, x.trueOnes(0, 61), 2);
        CHECK.refused("trueOnes", x, x.trueOnes(0, -1), 2);
    }

    /** Six towns round; one of them moves all right and down by one: 30 times round, 180 ROUNDS. */
    private static String six(String error) {
        StringBuilder text = new StringBuilder("ring wide 5 high 6 marks 4;town p baaaa,aaaaa,aaaaa,aaaaa,aaaaa,aaaaa");
        for (int t = 1; t < 6; t++) {
            text.append(";town ").append((char) ('p' + t)).append(" aaaaa,aaaaa,aaaaa,aaaaa,aaaaa,aaaaa");
        }
        text.append(";copies p u by shift 1 1");
        String[] errors = error.split(",");
        for (int t = 1; t < 6; t++) {
            text.append(";copies ").append((char) ('p' + t)).append(' ').append((char) ('o' + t)).append(" by ");
            text.append(t <= errors.length ? errors[t - 1] : "true");
        }
        return text.toString();
    }

    private static void when() {
        CHECK.part("promise 14");
        NineMaps x = Check.told(six("true"));
        CHECK.due("NOW", x.when(0, 0, 1), 0);
        CHECK.due("a copy", x.when(1, 0, 1), 1);
        CHECK.due("once round", x.when(0, 11, 1), 6);
        CHECK.due("behind 60", x.when(0, 4, 1), 60);
        CHECK.due("behind 61", x.when(1, 4, 1), -2);
        CHECK.due("no trouble", x.trouble(), 0);
        CHECK.due("never", x.when(0, 0, 2), -2);
        x.rounds(6);
        CHECK.due("from NOW on", x.when(1, 4, 1), 55);
        CHECK.refused("when", x, x.when(6, 0, 0), 1);
        CHECK.refused("when", x, x.when(0, 50, 0), 1);
        CHECK.refused("when", x, x.when(0, 6, 0), 1);
        CHECK.refused("when", x, x.when(0, 0, 4), 1);
        CHECK.refused("when", x, x.when(0, 0, -1), 1);
    }

    private static void areasAndLargest() {
        CHECK.part("promises 15, 16");
        NineMaps x = Check.told("ring wide 5 high 4 marks 3;town p abbba,ababa,abbaa,aaaba;town q aaaaa,aaaaa,aaaaa,aaaaa;"
            + "copies q p by swap a c");
        CHECK.due("areas of b", x.areas(0, 1, 0), 2);
        CHECK.due("largest of b", x.largest(0, 1, 0), 7);
        CHECK.due("areas of a", x.areas(0, 0, 60), 3);
        CHECK.due("largest of a", x.largest(0, 0, 60), 6);
        CHECK.due("areas of c", x.areas(0, 2, 0), 0);
        CHECK.due("largest of c", x.largest(0, 2, 0), 0);
        CHECK.due("areas behind", x.areas(1, 2, 1), 3);
        CHECK.due("largest behind", x.largest(1, 2, 1), 6);
        CHECK.due("largest NOW", x.largest(1, 0, 0), 20);
        CHECK.refused("areas", x, x.areas(2, 0, 0), 1);
        CHECK.refused("areas", x, x.areas(0, 3, 61), 1);
        CHECK.refused("areas", x, x.areas(0, 0, 61), 2);
        CHECK.refused("areas", x, x.areas(0, 0, -1), 2);
        CHECK.refused("largest", x, x.largest(-1, 0, 0), 1);
        CHECK.refused("largest", x, x.largest(0, -1, 61), 1);
        CHECK.refused("largest", x, x.largest(0, 0, 61), 2);
        CHECK.refused("largest", x, x.largest(0, 0, -1), 2);
    }

    private static void scale() {
        CHECK.part("promise 17");
        NineMaps x = Check.told("ring wide 2 high 2 marks 2;town p ab,ba;town q ab,ba;town r ab,ba;town s ab,ba;"
            + "copies q p by stretch 8;copies r q by stretch 5;copies s s by stretch 9;town u ab,ba;copies u r by turn");
        CHECK.due("behind none", x.scale(2, 0, true), 1);
        CHECK.due("8 tenths", x.scale(1, 1, false), 4);
        CHECK.due("8 tenths", x.scale(1, 1, true), 5);
        CHECK.due("5 tenths of q NOW", x.scale(2, 1, true), 2);
        CHECK.due("5 tenths of 8 tenths", x.scale(2, 2, false), 2);
        CHECK.due("5 tenths of 8 tenths", x.scale(2, 12, true), 5);
        CHECK.due("by turn, of r NOW", x.scale(4, 1, true), 1);
        CHECK.due("by turn", x.scale(4, 2, true), 2);
        CHECK.due("of one that copies nobody", x.scale(0, 12, false), 1);
        CHECK.due("its own", x.scale(3, 12, false), 282_429_536_481L);
        CHECK.due("its own", x.scale(3, 12, true), 1_000_000_000_000L);
        CHECK.due("no trouble", x.trouble(), 0);
        CHECK.refused("scale", x, x.scale(5, 13, true), 1);
        CHECK.refused("scale", x, x.scale(-1, 0, true), 1);
        CHECK.refused("scale", x, x.scale(0, 13, true), 2);
        CHECK.refused("scale", x, x.scale(0, -1, true), 2);
        x.mend(1);
        CHECK.due("NOW's errors", x.scale(2, 2, true), 2);
    }

    private static void round() {
        CHECK.part("promise 18");
        NineMaps x = Check.told(six("true"));
        CHECK.due("ROUND", x.round(false), 180);
        CHECK.due("REST", x.round(true), 0);
        x = Check.told(six("swap a b,swap b c,swap c d"));
        CHECK.due("ROUND", x.round(false), 360);
        CHECK.due("REST", x.round(true), 0);
        x = Check.told("ring wide 2 high 2 marks 2;town p ab,bb;town q aa,aa;town r aa,aa;town s aa,aa;"
            + "copies q p by true;copies r q by true;copies s r by true");
        CHECK.due("ROUND", x.round(false), 1);
        CHECK.due("REST", x.round(true), 3);
        x.rounds(2);
        CHECK.due("REST from NOW on", x.round(true), 1);
        CHECK.due("only looked at", x.size(7), 2);
        x = Check.told("ring wide 3 high 2 marks 2;town p abb,aaa;town q aaa,aaa;copies p p by shift 1 1;copies q p by erase b");
        CHECK.due("ROUND", x.round(false), 6);
        CHECK.due("REST", x.round(true), 0);
        x = Check.told(six("blot c 0 0"));
        CHECK.due("ROUND, all blotted", x.round(false), 1);
        // q's thirtieth blot is behind 29 times round and one; p has it five copies later
        CHECK.due("REST, 30 blots", x.round(true), 29 * 6 + 1 + 5);
        x = Check.told("ring wide 2 high 2 marks 2;town p ab,bb;copies p p by sneeze a");
        CHECK.refused("round", x, x.round(false), 6);
        CHECK.refused("round", x, x.round(true), 6);
        x.mend(0);
        CHECK.due("mended", x.round(false), 1);
    }

    private static void origin() {
        CHECK.part("promise 19");
        CHECK.due("none gone by", by("turn").origin(1, 21, 0), 121);
        CHECK.due("true", by("true").origin(1, 21, 1), 21);
        CHECK.due("unknown", by("unknown").origin(1, 21, 60), 21);
        CHECK.due("blot", by("blot b 1 0").origin(1, 10, 1), -2);
        CHECK.due("blot elsewhere", by("blot b 1 0").origin(1, 11, 1), 11);
        CHECK.due("fold", by("fold 2").origin(1, 31, 1), 1);
        CHECK.due("shift", by("shift 1 1").origin(1, 0, 1), 32);
        CHECK.due("turn", by("turn").origin(1, 31, 1), 1);
        CHECK.due("swap", by("swap a b").origin(1, 31, 1), 31);
        CHECK.due("swapped", by("swap a b").origin(1, 10, 1), 10);
        CHECK.due("stain, itself", by("stain a").origin(1, 11, 1), 11);
        CHECK.due("stain, left ahead of below", by("stain a").origin(1, 10, 1), 0);
        CHECK.due("stain, right ahead of above", by("stain a").origin(1, 1, 1), 11);
        CHECK.due("stain, left ahead of below", by("stain a").origin(1, 21, 1), 11);
        CHECK.due("stain, right ahead of above", by("stain a").origin(1, 12, 1), 22);
        CHECK.due("stain, above", by("stain b").origin(1, 11, 1), 1);
        CHECK.due("stain, above", by("stain d").origin(1, 31, 1), 30);
        CHECK.due("stain, below", by("stain d").origin(1, 1, 1), 2);
        CHECK.due("stain, not stained", by("stain a").origin(1, 20, 1), 20);
        CHECK.due("erased", by("erase c").origin(1, 20, 1), -2);
        CHECK.due("not erased", by("erase c").origin(1, 30, 1), 30);
        CHECK.due("stretch", by("stretch 5").origin(1, 32, 1), 11);
        CHECK.due("sneeze", by("sneeze d").origin(1, 20, 1), -2);
        CHECK.due("sneeze elsewhere", by("sneeze d").origin(1, 21, 1), 21);
        NineMaps x = Check.told(THREE);
        CHECK.due("behind two", x.origin(0, 10, 2), 11);
        CHECK.due("behind two, of a blot's town", x.origin(2, 0, 2), 121);
        CHECK.due("behind three", x.origin(1, 0, 3), 21);
        CHECK.refused("origin", x, x.origin(3, 0, 61), 1);
        CHECK.refused("origin", x, x.origin(0, 30, 0), 1);
        CHECK.refused("origin", x, x.origin(0, 0, 61), 2);
        CHECK.refused("origin", x, x.origin(0, 0, -1), 2);
    }

    private static void blame() {
        CHECK.part("promise 20");
        NineMaps x = Check.told("ring wide 2 high 2 marks 2;town p ab,bb;town q aa,aa;town r aa,aa;"
            + "copies q p by swap a b;copies r q by swap a b");
        CHECK.due("nobody yet", x.blame(2, 0, 0), 0);
        CHECK.due("its own", x.blame(2, 0, 1), 4);
        CHECK.due("both", x.blame(2, 0, 2), 6);
        CHECK.due("both", x.blame(2, 11, 60), 6);
        CHECK.due("of one that copies nobody", x.blame(0, 0, 60), 0);
        x = Check.told("ring wide 2 high 2 marks 2;town p ab,bb;town q aa,aa;copies q p by blot a 0 0");
        CHECK.due("a blot that is so already", x.blame(1, 0, 1), 0);
        x.draw(0, 0, 1);
        CHECK.due("a blot that isn't", x.blame(1, 0, 1), 2);
        // were q's sneeze true, r's would be the first draw, place 2 and not 8
        x = Check.told("ring wide 4 high 3 marks 2;town p aaaa,aaaa,aaaa;town q aaaa,aaaa,aaaa;"
            + "town r aaaa,aaaa,aaaa;copies q p by sneeze b;copies r p by sneeze b");
        CHECK.due("r's sneeze, by q's draw", x.blame(2, 2, 1), 6);
        CHECK.due("where r's would be", x.blame(2, 20, 1), 2);
        CHECK.due("q's", x.blame(1, 20, 1), 2);
        CHECK.refused("blame", x, x.blame(3, 0, 61), 1);
        CHECK.refused("blame", x, x.blame(0, 40, 0), 1);
        CHECK.refused("blame", x, x.blame(0, 0, 61), 2);
        CHECK.refused("blame", x, x.blame(0, 0, -1), 2);
    }

    private static void loopAndDepth() {
        CHECK.part("promises 21, 22");
        NineMaps x = Check.told("ring wide 2 high 2 marks 2;town p ab,ba;town q ab,ba;town r ab,ba;town s ab,ba;"
            + "town u ab,ba;town v ab,ba;copies p q by true;copies q r by true;copies r p by true;copies s p by true;"
            + "copies v u by true");
        int[] loops = {3, 3, 3, 0, 0, 0};
        int[] depths = {-2, -2, -2, -2, 0, 1};
        for (int t = 0; t < 6; t++) {
            CHECK.due("loop " + t, x.loop(t), loops[t]);
            CHECK.due("depth " + t, x.depth(t), depths[t]);
            CHECK.due("no trouble", x.trouble(), 0);
        }
        x.copy(4, 4);
        CHECK.due("of itself", x.loop(4), 1);
        CHECK.due("of itself", x.depth(4), -2);
        CHECK.due("who copies it", x.loop(5), 0);
        CHECK.due("who copies it", x.depth(5), -2);
        CHECK.refused("loop", x, x.loop(6), 1);
        CHECK.refused("depth", x, x.depth(6), 1);
        CHECK.refused("depth", x, x.depth(-1), 1);
        x = Check.told(six("true"));
        CHECK.due("all six", x.loop(3), 6);
        CHECK.due("all six", x.depth(3), -2);
        x = Check.told("ring wide 2 high 2 marks 2;town p ab,ba;town q ab,ba;town r ab,ba;town s ab,ba;town u ab,ba;"
            + "town v ab,ba;copies q p by true;copies r q by true;copies s r by true;copies u s by true;copies v u by true");
        CHECK.due("five away", x.depth(5), 5);
    }

    private static void strokes() {
        CHECK.part("promises 23, 24");
        String text = "ring wide 3 high 3 marks 3;town p aca,cac,bca;town q aaa,aaa,aaa;copies q p by stain c";
        NineMaps x = Check.told(text);
        CHECK.due("four are beside it", x.strokes(0, 0, 1, 11, 0, 1), -2);
        CHECK.refused("strokeAt", x, x.strokeAt(0, 0, 1, 11, 0, 1, 0), 1);
        CHECK.due("so already", x.strokes(0, 0, 1, 11, 2, 1), 0);
        CHECK.refused("strokeAt", x, x.strokeAt(0, 0, 1, 11, 2, 1, 0), 1);
        x.draw(0, 12, 0);
        CHECK.due("three", x.strokes(0, 0, 1, 11, 0, 1), 3);
        int[] three = {1, 10, 21};
        for (int i = 0; i < 3; i++) {
            CHECK.due("the place " + i, x.strokeAt(0, 0, 1, 11, 0, 1, i), three[i]);
        }
        CHECK.refused("strokeAt", x, x.strokeAt(0, 0, 1, 11, 0, 1, 3), 1);
        CHECK.refused("strokeAt", x, x.strokeAt(0, 0, 1, 11, 0, 1, -1), 1);
        CHECK.due("nothing is drawn", x.cell(0, 1), 2);
        CHECK.due("and by a mark that helps not", x.strokes(0, 2, 1, 11, 0, 1), -2);
        CHECK.due("b itself, too", x.strokes(0, 1, 1, 11, 1, 1), -2);
        x.draw(0, 10, 0);
        CHECK.due("two and itself", x.strokes(0, 1, 1, 11, 1, 1), 3);
        CHECK.due("the place 1", x.strokeAt(0, 1, 1, 11, 1, 1, 1), 11);
        CHECK.due("two", x.strokes(0, 1, 1, 11, 0, 1), 2);
        x = Check.told("ring wide 3 high 3 marks 3;town p aaa,aaa,aaa;town q aaa,aaa,aaa;copies q p by stain c");
        CHECK.due("one of five", x.strokes(0, 2, 1, 11, 2, 1), 1);
        CHECK.due("the first by places", x.strokeAt(0, 2, 1, 11, 2, 1, 0), 1);
        CHECK.due("of another town", x.strokes(1, 2, 1, 11, 2, 1), -2);
        CHECK.due("NOW", x.strokes(1, 2, 1, 12, 2, 0), 1);
        CHECK.due("NOW", x.strokeAt(1, 2, 1, 12, 2, 0, 0), 12);
        CHECK.due("behind 12", x.strokes(0, 2, 1, 0, 2, 12), 1);
        CHECK.refused("strokes", x, x.strokes(0, 2, 1, 0, 2, 13), 2);
        CHECK.refused("strokes", x, x.strokes(0, 2, 1, 0, 2, -1), 2);
        CHECK.refused("strokes", x, x.strokes(2, 2, 1, 0, 2, 13), 1);
        CHECK.refused("strokes", x, x.strokes(0, 3, 1, 0, 2, 13), 1);
        CHECK.refused("strokes", x, x.strokes(0, 2, 2, 0, 2, 13), 1);
        CHECK.refused("strokes", x, x.strokes(0, 2, 1, 3, 2, 13), 1);
        CHECK.refused("strokes", x, x.strokes(0, 2, 1, 0, 3, 13), 1);
        CHECK.refused("strokeAt", x, x.strokeAt(0, 2, 1, 0, 2, 13, 9), 2);
        CHECK.refused("strokeAt", x, x.strokeAt(0, 2, 1, 0, 3, 13, 0), 1);
        // a mark that two others could hold up: turned, so the first place is by the town's own places
        x = Check.told("ring wide 3 high 3 marks 3;town p aaa,aaa,aaa;town q aaa,aaa,aaa;town r aaa,aaa,aaa;"
            + "copies q p by turn;copies r q by stain b");
        CHECK.due("by a turned map", x.strokes(0, 1, 2, 0, 1, 2), 1);
        CHECK.due("by a turned map", x.strokeAt(0, 1, 2, 0, 1, 2, 0), 12);
    }

    private static void ink() {
        CHECK.part("promise 25");
        NineMaps x = Check.told("ring wide 5 high 5 marks 3;town p aaaaa,abbba,abaaa,aaaaa,aaaaa;"
            + "town q aaaba,abbba,abaaa,aaaaa,aaaaa");
        CHECK.due("itself and the edge", x.ink(0, 22, 1), 2);
        CHECK.due("itself, the rest hangs together", x.ink(1, 22, 1), 1);
        CHECK.due("nothing", x.ink(1, 12, 1), 0);
        CHECK.due("at the edge", x.ink(0, 0, 1), 1);
        CHECK.due("at the edge, so already", x.ink(0, 44, 0), 0);
        CHECK.due("one in, it has the mark", x.ink(0, 21, 1), 1);
        CHECK.due("all the way", x.ink(0, 22, 2), 3);
        CHECK.due("an a that hangs on the edge", x.ink(0, 22, 0), 0);
        x.draw(0, 20, 1);
        CHECK.due("NOW", x.ink(0, 22, 1), 1);
        CHECK.refused("ink", x, x.ink(2, 0, 0), 1);
        CHECK.refused("ink", x, x.ink(0, 50, 0), 1);
        CHECK.refused("ink", x, x.ink(0, 0, 3), 1);
        CHECK.refused("ink", x, x.ink(0, 0, -1), 1);
    }

    private static void judge() {
        CHECK.part("promise 26");
        String text = "ring wide 2 high 2 marks 2;town p ab,aa;town q aa,aa;copies q p by unknown";
        CHECK.due("nothing is seen", Check.told(text).judge(), -2);
        NineMaps x = Check.told(text + ";seen q 1 1 0 b;seen q 20 0 1 a");
        CHECK.due("all is so", x.judge(), -2);
        x.draw(0, 10, 0);
        x.copy(1, 1);
        x.rounds(1);
        CHECK.due("from FIRST on", x.judge(), -2);
        x = Check.told(text + ";seen q 1 1 0 b;seen q 2 1 1 b;seen q 1 0 0 b");
        CHECK.due("the first that isn't", x.judge(), 1);
        CHECK.due("no trouble", x.trouble(), 0);
        x = Check.told("ring wide 4 high 3 marks 2;town p aaaa,aaaa,aaaa;copies p p by sneeze b;seen p 2 2 0 b;"
            + "seen p 2 0 2 b;seen p 1 0 2 a");
        x.seed(5);
        CHECK.due("SEED 0", x.judge(), -2);
    }

    private static void fits() {
        CHECK.part("promises 27, 28, 29");
        String two = "ring wide 2 high 2 marks 2;town p ab,aa;town q aa,aa;town r aa,aa;"
            + "copies r q by unknown;copies q p by unknown";
        NineMaps x = Check.told(two);
        CHECK.refused("fits", x, x.fits(), 6);
        CHECK.refused("fit", x, x.fit(0, 1), 6);
        CHECK.refused("fit", x, x.fit(0, 99), 6);
        CHECK.refused("surely", x, x.surely(1), 6);
        x = Check.told("ring wide 2 high 2 marks 2;town p ab,aa;copies p p by true;guess true");
        CHECK.refused("fits", x, x.fits(), 6);
        CHECK.refused("surely", x, x.surely(0), 6);
        // r is p behind two copies, the b seen where it is: turned by both or by none
        x = Check.told(two + ";guess true;guess turn;seen r 2 1 0 b");
        CHECK.due("fits", x.fits(), 2);
        int[][] rows = {{0, 0}, {1, 1}};
        rows(x, rows);
        CHECK.due("surely", x.surely(1), -2);
        CHECK.due("no trouble", x.trouble(), 0);
        // all rows, q's guess counting most though r's ERROR is told ahead of it
        x = Check.told(two + ";guess true;guess turn");
        CHECK.due("fits", x.fits(), 4);
        rows(x, new int[][] {{0, 0}, {0, 1}, {1, 0}, {1, 1}});
        // q is turned, by either of two like guesses; r isn't
        x = Check.told(two + ";guess turn;guess true;guess turn;seen q 1 0 1 b;seen r 2 0 1 b");
        CHECK.due("fits", x.fits(), 2);
        rows(x, new int[][] {{0, 1}, {2, 1}});
        CHECK.due("surely q", x.surely(1), -2);
        CHECK.due("surely r", x.surely(2), 1);
        CHECK.refused("fit", x, x.fit(2, 1), 1);
        CHECK.refused("fit", x, x.fit(-1, 1), 1);
        CHECK.refused("fit", x, x.fit(0, 0), 1);
        CHECK.refused("fit", x, x.fit(0, 3), 1);
        CHECK.refused("surely", x, x.surely(0), 1);
        CHECK.refused("surely", x, x.surely(-1), 1);
        // acts change nothing of what was seen
        x.mend(1);
        x.draw(0, 10, 0);
        x.copy(2, 0);
        CHECK.due("fits as told", x.fits(), 2);
        CHECK.due("fit of one that was mended", x.fit(1, 1), 2);
        CHECK.due("surely r", x.surely(2), 1);
        x = Check.told(two + ";guess true;seen r 2 0 0 b");
        CHECK.due("none fits", x.fits(), 0);
        CHECK.due("no trouble", x.trouble(), 0);
        CHECK.due("surely", x.surely(1), -2);
        CHECK.refused("fit", x, x.fit(0, 1), 1);
        // a new ring has fits of its own
        Check.ring(x, two + ";guess true;seen r 2 0 0 a");
        CHECK.due("fits anew", x.fits(), 1);
        x = Check.told("ring wide 2 high 2 marks 2;town p ab,ba;town q ab,ba;town r ab,ba;town s ab,ba;"
            + "copies p p by unknown;copies q p by unknown;copies r p by unknown;copies s p by unknown;"
            + "guess true;guess turn;guess fold 1;guess erase b;guess stain a");
        CHECK.due("most", x.fits(), 625);
        CHECK.due("the last row", x.fit(624, 0), 4);
        CHECK.due("a row", x.fit(1 * 125 + 2 * 25 + 3 * 5 + 4, 1), 2);
    }

    private static void rows(NineMaps x, int[][] rows) {
        for (int i = 0; i < rows.length; i++) {
            CHECK.due("fit " + i + " of q", x.fit(i, 1), rows[i][0]);
            CHECK.due("fit " + i + " of r", x.fit(i, 2), rows[i][1]);
        }
    }

    private static void rounds() {
        CHECK.part("promise 30");
        NineMaps x = Check.told(THREE);
        CHECK.due("one", x.rounds(1), 1);
        CHECK.dueText("p", Check.map(x, 0, 0), "aca,bbb");
        CHECK.dueText("r", Check.map(x, 2, 0), "aca,cab");
        CHECK.due("60", x.rounds(60), 61);
        CHECK.refused("rounds", x, x.rounds(0), 2);
        CHECK.refused("rounds", x, x.rounds(61), 2);
        CHECK.refused("rounds", x, x.rounds(-1), 2);
        CHECK.due("gone by", x.size(7), 61);
        CHECK.due("acts", x.size(9), 2);
        x.undo();
        CHECK.due("gone by", x.size(7), 1);
        CHECK.due("one more", x.rounds(1), 2);
    }

    private static void draw() {
        CHECK.part("promise 31");
        NineMaps x = Check.told(THREE);
        CHECK.due("draw", x.draw(1, 21, 2), true);
        CHECK.due("trouble", x.trouble(), 0);
        CHECK.dueText("q", Check.map(x, 1, 0), "bbb,acc");
        CHECK.refused("draw", x, x.draw(1, 21, 2), 5);
        CHECK.refused("draw", x, x.draw(3, 21, 2), 1);
        CHECK.refused("draw", x, x.draw(1, 2, 2), 1);
        CHECK.refused("draw", x, x.draw(1, 30, 2), 1);
        CHECK.refused("draw", x, x.draw(1, 21, 3), 1);
        CHECK.refused("draw", x, x.draw(1, 21, -1), 1);
        CHECK.due("acts", x.size(9), 1);
        CHECK.dueText("p behind 1", Check.map(x, 0, 1), "cca,bbb");
    }

    private static void mend() {
        CHECK.part("promise 32");
        NineMaps x = Check.told(THREE + ";town s aaa,aaa;town u aaa,aaa;copies u p by unknown");
        CHECK.due("mend", x.mend(0), true);
        CHECK.dueText("p behind 1", Check.map(x, 0, 1), "bbb,aca");
        CHECK.refused("mend again", x, x.mend(0), 5);
        CHECK.refused("one that copies nobody", x, x.mend(3), 5);
        CHECK.due("unknown", x.mend(4), true);
        CHECK.due("true", x.error(4, 0), 0);
        CHECK.refused("mend", x, x.mend(5), 1);
        CHECK.refused("mend", x, x.mend(-1), 1);
        CHECK.due("acts", x.size(9), 2);
        CHECK.due("it still copies", x.copies(0), 1);
    }

    private static void copy() {
        CHECK.part("promise 33");
        NineMaps x = Check.told(THREE + ";town s aaa,aaa");
        CHECK.due("copy", x.copy(0, 2), true);
        CHECK.due("by the ERROR it has", x.error(0, 0), 4);
        CHECK.due("whom", x.copies(0), 2);
        CHECK.refused("copy again", x, x.copy(0, 2), 5);
        CHECK.due("itself", x.copy(0, 0), true);
        CHECK.dueText("p behind 1", Check.map(x, 0, 1), "bac,aba");
        CHECK.due("one that copied nobody", x.copy(3, 1), true);
        CHECK.due("true", x.error(3, 0), 0);
        CHECK.dueText("s behind 1", Check.map(x, 3, 1), "bbb,aca");
        CHECK.due("how many copy", x.size(4), 4);
        CHECK.refused("copy", x, x.copy(4, 0), 1);
        CHECK.refused("copy", x, x.copy(0, 4), 1);
        CHECK.refused("copy", x, x.copy(0, -2), 1);
        CHECK.due("acts", x.size(9), 3);
    }

    private static void seed() {
        CHECK.part("promise 34");
        NineMaps x = Check.told(THREE);
        CHECK.due("seed", x.seed(65_536), true);
        CHECK.due("SEED", x.size(8), 65_536);
        CHECK.refused("seed", x, x.seed(65_537), 2);
        CHECK.refused("seed", x, x.seed(-1), 2);
        CHECK.due("SEED", x.size(8), 65_536);
        CHECK.due("seed", x.seed(0), true);
        CHECK.due("no ACT", x.size(9), 0);
    }

    private static void undo() {
        CHECK.part("promise 35");
        NineMaps x = Check.told(THREE);
        CHECK.refused("undo", x, x.undo(), 6);
        x.seed(3);
        x.rounds(2);
        x.seed(4);
        x.mend(0);
        x.copy(1, 1);
        x.draw(2, 0, 1);
        x.seed(5);
        CHECK.due("undo the drawing", x.undo(), true);
        CHECK.due("undone", x.cell(2, 0), 0);
        CHECK.due("SEED", x.size(8), 4);
        CHECK.due("undo the copying", x.undo(), true);
        CHECK.due("undone", x.copies(1), 0);
        CHECK.due("undo the mending", x.undo(), true);
        CHECK.due("undone", x.error(0, 0), 4);
        CHECK.due("undo the rounds", x.undo(), true);
        CHECK.dueText("p", Check.map(x, 0, 0), "aba,cab");
        CHECK.due("SEED", x.size(8), 3);
        CHECK.due("ROUNDS", x.size(7), 0);
        CHECK.refused("undo", x, x.undo(), 6);
        for (int i = 0; i < 20; i++) {
            x.draw(0, 0, (i + 1) % 3);
            CHECK.due("acts", x.size(9), Math.min(12, i + 1));
        }
        for (int i = 0; i < 12; i++) {
            CHECK.due("undo", x.undo(), true);
            CHECK.due("as ahead of it", x.cell(0, 0), (19 - i) % 3);
        }
        CHECK.refused("twelve are kept", x, x.undo(), 6);
    }

    private static void keepAndBack() {
        CHECK.part("promises 36, 37");
        NineMaps x = Check.told(THREE);
        CHECK.due("keep", x.keep(), 0);
        x.seed(8);
        x.rounds(1);
        x.mend(0);
        x.copy(0, 0);
        CHECK.due("keep", x.keep(), 1);
        CHECK.due("keeping is no ACT", x.size(9), 3);
        x.undo();
        CHECK.due("KEEPS stay", x.size(10), 2);
        CHECK.due("keep", x.keep(), 2);
        CHECK.refused("keep", x, x.keep(), 3);
        CHECK.due("back", x.back(0), true);
        CHECK.dueText("p", Check.map(x, 0, 0), "aba,cab");
        CHECK.due("SEED", x.size(8), 0);
        CHECK.due("ROUNDS", x.size(7), 0);
        CHECK.due("error", x.error(0, 0), 4);
        CHECK.refused("nothing can be undone", x, x.undo(), 6);
        CHECK.due("all KEEPS stay", x.size(10), 3);
        x.draw(0, 0, 2);
        CHECK.due("back", x.back(1), true);
        CHECK.due("ACTS", x.size(9), 0);
        CHECK.due("copies", x.copies(0), 0);
        CHECK.due("error", x.error(0, 0), 0);
        CHECK.due("SEED", x.size(8), 8);
        CHECK.due("ROUNDS", x.size(7), 1);
        x.draw(0, 0, 2);
        CHECK.due("back", x.back(2), true);
        CHECK.due("copies", x.copies(0), 1);
        x.draw(0, 0, 2);
        CHECK.due("a KEEP isn't changed by acts", x.back(2), true);
        CHECK.due("cell", x.cell(0, 0), 0);
        CHECK.refused("back", x, x.back(3), 1);
        CHECK.refused("back", x, x.back(-1), 1);
    }

    private static void led() {
        CHECK.part("promise 38");
        NineMaps x = Check.told(THREE);
        CHECK.due("nobody", Check.ledThrows(x, 0), true);
        x.draw(2, 21, 1);
        CHECK.due("r", x.led(0), 2);
        CHECK.due("no more", Check.ledThrows(x, 1), true);
        x.draw(0, 0, 1);
        CHECK.due("p", x.led(0), 0);
        CHECK.due("r", x.led(1), 2);
        CHECK.due("no more", Check.ledThrows(x, 2), true);
        CHECK.due("none such", Check.ledThrows(x, -1), true);
        x.draw(2, 21, 0);
        CHECK.due("r is as FIRST again", Check.ledThrows(x, 1), true);
        CHECK.refused("copies", x, x.copies(9), 1);
        Check.ledThrows(x, 9);
        x.led(0);
        CHECK.due("led leaves trouble alone", x.trouble(), 1);
    }

    private static void size() {
        CHECK.part("promise 39");
        NineMaps x = Check.told("ring wide 5 high 2 marks 6;town p abcde,fabcd;town q aaaaa,aaaaa;copies q p by sneeze b;"
            + "guess true;guess turn;guess fold 1;seen p 1 0 0 a;seen q 2 0 0 b;seen q 2 0 0 b;seen q 2 0 0 b");
        x.rounds(1);
        x.draw(0, 0, 3);
        x.keep();
        x.feed(0, 0, 0, 0, 0);
        int[] sizes = {5, 2, 6, 2, 1, 3, 4, 1, 74, 2, 1, 20};
        for (int what = 0; what < sizes.length; what++) {
            CHECK.due("size " + what, x.size(what), sizes[what]);
        }
        CHECK.due("others", x.size(12), NONE);
        CHECK.due("others", x.size(-1), NONE);
    }

    private static void trouble() {
        CHECK.part("promise 40");
        NineMaps x = Check.told(THREE);
        CHECK.refused("mend", x, x.mend(9), 1);
        x.size(0);
        x.size(99);
        x.fault();
        x.where();
        x.trouble();
        x.feed(0, 0, 0, 0, 0);
        CHECK.due("of the latest call that may be refused", x.trouble(), 1);
        CHECK.due("copies", x.copies(0), 1);
        CHECK.due("it wasn't", x.trouble(), 0);
        CHECK.refused("after", x, x.after(0, 0, 99), 2);
        CHECK.due("scale", x.scale(0, 0, true), 1);
        CHECK.due("it wasn't", x.trouble(), 0);
        CHECK.refused("undo", x, x.undo(), 6);
        CHECK.due("keep", x.keep(), 0);
        CHECK.due("it wasn't", x.trouble(), 0);
        CHECK.refused("undo", x, x.undo(), 6);
        CHECK.due("back", x.back(0), true);
        CHECK.due("it wasn't", x.trouble(), 0);
        CHECK.refused("undo", x, x.undo(), 6);
        CHECK.due("draw", x.draw(0, 0, 1), true);
        CHECK.due("it wasn't", x.trouble(), 0);
        CHECK.refused("draw", x, x.draw(0, 0, 1), 5);
        CHECK.due("undo", x.undo(), true);
        CHECK.due("it wasn't", x.trouble(), 0);
    }
}
