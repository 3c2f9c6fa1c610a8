/** Promises 1 to 40: each call at its bounds and one beyond, and what stays when it is refused. */
public final class EdgeCallsTest {
    private static final Check CHECK = new Check();
    private static final int NONE = NineMaps.NONE;
    private static final String TOWN = "ring wide 2 high 2 marks 2;town p ab,ba";
    /** Six towns, 5 wide and 3 high, 4 marks: no bound is like another one. */
    private static final String SIX = "ring wide 5 high 3 marks 4;town p abcda,bcdab,cdabc;town q aaaaa,bbbbb,ccccc;"
        + "town r ddddd,ccccc,bbbbb;town s aaaaa,aaaaa,aaaad;town u abaab,baaba,aabaa;town v dcbad,cbadc,badcb;"
        + "copies q p by turn;copies r q by swap a d;copies s r by stain b;copies u u by shift 1 1;copies v s by unknown;"
        + "guess true;guess turn;guess fold 2;seen q 1 0 0 c;seen v 1 0 0 a";

    /** A call of which one number is tried, the others being such as are taken. */
    private interface Call {
        long ask(NineMaps x, int n);
    }

    private interface Act {
        boolean does(NineMaps x, int n);
    }

    public static void main(String[] args) {
        newObjectIsAskedByEveryCall();
        newObjectTakesNoAct();
        tapeEmptyToFull();
        tapeHighestByteFirst();
        ringByNumbers();
        ringByAllOfTheTape();
        ringRefusedBy2();
        ringRefusedBy4();
        ringIsNew();
        faultBehindEachRing();
        whereOnlyOfTheLatest();
        towns();
        places();
        marks();
        roundsBehind();
        errorsParts();
        copiesNobody();
        cellAndFirstPartWays();
        whenIsSixtyAtMost();
        nothingThere();
        roundRefused();
        originNumbers();
        blameBits();
        strokesBehindTwelve();
        strokeAtBeyond();
        inkBounds();
        judgeNothingSeen();
        judgeTheFirst();
        fitsRefused();
        fitsNoRow();
        fitsAllRows();
        fitsAsTold();
        surelyNone();
        roundsOneToSixty();
        drawIsSoAlready();
        mendIsTrueAlready();
        copyItCopiesThatOne();
        seedBounds();
        undoNothing();
        refusedActsAreNotKept();
        keepAFourth();
        backThereIsNone();
        ledBounds();
        sizeNumbers();
        CHECK.end();
    }

    private static NineMaps six() {
        return Check.told(SIX);
    }

    private static void taken(String name, Call call, int n) {
        NineMaps x = six();
        x.undo();
        CHECK.due(name + " of " + n + " is refused", call.ask(x, n) == NONE, false);
        CHECK.due(name + " of " + n + ", trouble()", x.trouble(), 0);
    }

    private static void refused(String name, Call call, int n, int trouble) {
        NineMaps x = six();
        CHECK.refused(name + " of " + n, x, call.ask(x, n), trouble);
        CHECK.due("nothing to undo behind " + name, x.size(9), 0);
    }

    /** The first number and the last one that are taken, and those one beyond, and far beyond. */
    private static void bounds(String name, Call call, int low, int high, int trouble) {
        taken(name, call, low);
        taken(name, call, high);
        int[] beyond = {low - 1, high + 1, -2, -3, 100, Integer.MIN_VALUE, Integer.MAX_VALUE};
        for (int n : beyond) {
            refused(name, call, n, trouble);
        }
    }

    // ---- 1

    private static void newObjectIsAskedByEveryCall() {
        CHECK.part("promise 1");
        int[] numbers = {0, -1, 1, 61, Integer.MIN_VALUE, Integer.MAX_VALUE};
        for (int n : numbers) {
            NineMaps x = new NineMaps();
            CHECK.refused("copies", x, x.copies(n), 1);
            CHECK.refused("error", x, x.error(n, 0), 1);
            CHECK.refused("error", x, x.error(0, n), 1);
            CHECK.refused("cell", x, x.cell(0, n), 1);
            CHECK.refused("first", x, x.first(0, n), 1);
            CHECK.refused("after", x, x.after(0, 0, n), 1);
            CHECK.refused("many", x, x.many(0, 0, n), 1);
            CHECK.refused("unlike", x, x.unlike(0, 0, n), 1);
            CHECK.refused("trueOnes", x, x.trueOnes(0, n), 1);
            CHECK.refused("when", x, x.when(0, 0, n), 1);
            CHECK.refused("areas", x, x.areas(0, 0, n), 1);
            CHECK.refused("largest", x, x.largest(0, 0, n), 1);
            CHECK.refused("scale", x, x.scale(0, n, false), 1);
            CHECK.refused("origin", x, x.origin(0, 0, n), 1);
            CHECK.refused("blame", x, x.blame(0, 0, n), 1);
            CHECK.refused("loop", x, x.loop(n), 1);
            CHECK.refused("depth", x, x.depth(n), 1);
            CHECK.refused("strokes", x, x.strokes(0, 0, 0, 0, 0, n), 1);
            CHECK.refused("strokeAt", x, x.strokeAt(0, 0, 0, 0, 0, 0, n), 1);
            CHECK.refused("ink", x, x.ink(0, 0, n), 1);
            CHECK.refused("fit", x, x.fit(n, 0), 1);
            CHECK.refused("surely", x, x.surely(n), 1);
            CHECK.due("led", Check.ledThrows(x, n), true);
        }
        NineMaps x = new NineMaps();
        CHECK.refused("round", x, x.round(true), 1);
        CHECK.refused("round", x, x.round(false), 1);
        CHECK.refused("judge", x, x.judge(), 1);
        CHECK.refused("fits", x, x.fits(), 1);
        CHECK.due("fault", x.fault(), 0);
        CHECK.due("where", x.where(), NONE);
        for (int what = 0; what <= 11; what++) {
            CHECK.due("size " + what, x.size(what), 0);
        }
        CHECK.due("size of others", x.size(12), NONE);
        CHECK.due("size of others", x.size(-1), NONE);
        CHECK.due("trouble of none", new NineMaps().trouble(), 0);
    }

    private static void newObjectTakesNoAct() {
        CHECK.part("promise 1, acts");
        int[] numbers = {0, 1, -1, 60, 65_536, Integer.MIN_VALUE, Integer.MAX_VALUE};
        for (int n : numbers) {
            NineMaps x = new NineMaps();
            CHECK.refused("rounds", x, x.rounds(n), 1);
            CHECK.refused("draw", x, x.draw(0, 0, n), 1);
            CHECK.refused("mend", x, x.mend(n), 1);
            CHECK.refused("copy", x, x.copy(n, n), 1);
            CHECK.refused("seed", x, x.seed(n), 1);
            CHECK.refused("keep", x, x.keep(), 1);
            CHECK.refused("back", x, x.back(n), 1);
            CHECK.refused("undo", x, x.undo(), 6);
            for (int what = 0; what <= 11; what++) {
                CHECK.due("size " + what, x.size(what), 0);
            }
        }
    }

    // ---- 2 to 5

    private static void tapeEmptyToFull() {
        CHECK.part("promise 2");
        NineMaps x = new NineMaps();
        CHECK.due("empty", x.size(11), 0);
        for (int i = 1; i <= 45; i++) {
            CHECK.due("feed", x.feed(0x20202020, 0x20202020, 0x20202020, 0x20202020, 0x20202020), 20 * i);
        }
        CHECK.due("more than 900", x.feed(0, 0, 0, 0, 0), NONE);
        CHECK.due("again", x.feed(0, 0, 0, 0, 0), NONE);
        CHECK.due("none comes", x.size(11), 900);
        CHECK.refused("all blanks, and no byte of those refused", x, x.ring(900), 4);
        CHECK.due("the end", x.where(), 900);
        CHECK.due("empty again", x.feed(0, 0, 0, 0, 0), 20);
    }

    private static void tapeHighestByteFirst() {
        CHECK.part("promise 2, bytes");
        NineMaps x = new NineMaps();
        // ring wide 2 high 2 m | arks 2;town p ab,ba!
        x.feed(0x72696e67, 0x20776964, 0x65203220, 0x68696768, 0x2032206d);
        x.feed(0x61726b73, 0x20323b74, 0x6f776e20, 0x70206162, 0x2c626121);
        CHECK.due("ring", x.ring(39), 1);
        CHECK.dueText("p", Check.map(x, 0, 0), "ab,ba");
        for (int at = 0; at < 20; at++) {
            int[] n = new int[5];
            java.util.Arrays.fill(n, 0x20202020);
            n[at / 4] |= 0xff << (24 - 8 * (at % 4));
            x.feed(n[0], n[1], n[2], n[3], n[4]);
            CHECK.refused("ring", x, x.ring(20), 4);
            CHECK.due("the byte 255 stands at", x.where(), at);
        }
    }

    private static void ringByNumbers() {
        CHECK.part("promise 3, n");
        NineMaps x = new NineMaps();
        CHECK.refused("by 1 of an empty TAPE", x, x.ring(1), 2);
        CHECK.refused("by 0 of an empty TAPE", x, x.ring(0), 4);
        CHECK.due("its place", x.where(), 0);
        Check.feed(x, TOWN);
        int[] beyond = {-1, -20, 41, 900, 901, Integer.MIN_VALUE, Integer.MAX_VALUE};
        for (int n : beyond) {
            CHECK.refused("by " + n, x, x.ring(n), 2);
            CHECK.due("THE TAPE stays", x.size(11), 40);
        }
        CHECK.due("by all of it", x.ring(40), 1);
        CHECK.due("THE TAPE is empty", x.size(11), 0);
        Check.feed(x, TOWN);
        CHECK.refused("by 0", x, x.ring(0), 4);
        CHECK.due("FORM", x.fault(), 1);
        CHECK.due("at the end", x.where(), 0);
        CHECK.due("THE TAPE is empty", x.size(11), 0);
        CHECK.refused("once more", x, x.ring(40), 2);
    }

    private static void ringByAllOfTheTape() {
        CHECK.part("promise 3, all of it");
        NineMaps x = new NineMaps();
        String text = TOWN + " ".repeat(860 - TOWN.length()) + ";town q bb,bb" + " ".repeat(27);
        CHECK.due("900 bytes", Check.feed(x, text), 900);
        CHECK.due("ring", x.ring(900), 2);
        // what stands behind the first n bytes isn't read
        x = new NineMaps();
        Check.feed(x, text);
        CHECK.due("the first ones", x.ring(860), 1);
        CHECK.due("THE TAPE is empty", x.size(11), 0);
        Check.feed(x, TOWN + "!");
        CHECK.due("ahead of a byte that begins no TOKEN", x.ring(TOWN.length()), 1);
        Check.feed(x, TOWN);
        CHECK.refused("cut", x, x.ring(TOWN.length() - 1), 4);
        CHECK.due("the ROW, cut", x.where(), TOWN.length() - 2);
        CHECK.due("of fewer letters", x.fault(), 7);
    }

    private static String all(NineMaps x) {
        StringBuilder text = new StringBuilder();
        for (int what = 0; what <= 10; what++) {
            text.append(x.size(what)).append(' ');
        }
        for (int t = 0; t < x.size(3); t++) {
            text.append(x.copies(t));
            for (int what = 0; what < 4; what++) {
                text.append(' ').append(x.error(t, what));
            }
            for (int column = 0; column < x.size(0); column++) {
                for (int row = 0; row < x.size(1); row++) {
                    text.append(' ').append(x.cell(t, 10 * column + row)).append(x.first(t, 10 * column + row));
                }
            }
        }
        return text.append(x.fits()).append(x.judge()).toString();
    }

    private static NineMaps lively() {
        NineMaps x = six();
        x.draw(0, 0, 1);
        x.seed(77);
        x.rounds(2);
        x.keep();
        x.mend(1);
        x.copy(0, 3);
        return x;
    }

    private static void ringRefusedBy2() {
        CHECK.part("promise 3, refused by 2");
        NineMaps x = lively();
        String before = all(x);
        Check.feed(x, TOWN);
        CHECK.refused("ring", x, x.ring(41), 2);
        CHECK.due("THE TAPE stays", x.size(11), 40);
        CHECK.dueText("the RING stays", all(x), before);
        CHECK.due("ring", x.ring(40), 1);
    }

    private static void ringRefusedBy4() {
        CHECK.part("promise 3, refused by 4");
        String[] texts = {"", "ring wide 3 high 3 marks 3", "ring wide 2 high 2 marks 2;town z ab,ba;copies z z by tr",
            SIX + ";town", "ring wide 2 high 2 marks 2;town z ab,ba;guess turn;seen z 1 0 0 b;"};
        for (String text : texts) {
            NineMaps x = lively();
            String before = all(x);
            CHECK.refused("ring", x, Check.ring(x, text), 4);
            CHECK.due("THE TAPE is empty", x.size(11), 0);
            CHECK.dueText("the RING stays", all(x), before);
            CHECK.due("the KEEP stays", x.back(0), true);
        }
        NineMaps x = lively();
        CHECK.refused("ring", x, Check.ring(x, "ring"), 4);
        CHECK.due("the ACTS stay", x.undo(), true);
        CHECK.due("undone", x.copies(0), -2);
    }

    private static void ringIsNew() {
        CHECK.part("promise 3, NOW as told");
        NineMaps x = lively();
        CHECK.due("ring", Check.ring(x, SIX), 6);
        CHECK.dueText("as of a new object", all(x), all(six()));
        CHECK.due("SEED", x.size(8), 0);
        CHECK.refused("nothing to undo", x, x.undo(), 6);
        CHECK.refused("no KEEPS", x, x.back(0), 1);
        CHECK.due("the first KEEP", x.keep(), 0);
        // a small ring behind a large one: nothing is left of that
        CHECK.due("ring", Check.ring(x, TOWN), 1);
        CHECK.dueText("as of a new object", all(x), all(Check.told(TOWN)));
        CHECK.refused("a place of the large one", x, x.cell(0, 20), 1);
        CHECK.refused("a mark of the large one", x, x.many(0, 2, 0), 1);
        CHECK.refused("a town of the large one", x, x.copies(1), 1);
        CHECK.due("ring", Check.ring(x, SIX), 6);
        CHECK.dueText("as of a new object", all(x), all(six()));
        // what FITS is of this RING, not of the one ahead of it
        String unknown = TOWN + ";copies p p by unknown;guess true;guess turn";
        CHECK.due("ring", Check.ring(x, unknown), 1);
        CHECK.due("fits", x.fits(), 2);
        CHECK.due("ring", Check.ring(x, unknown + ";guess fold 1;seen p 1 0 0 a;seen p 1 1 0 a"), 1);
        CHECK.due("fits", x.fits(), 1);
        CHECK.due("fit", x.fit(0, 0), 2);
        CHECK.refused("ring", x, Check.ring(x, unknown + ";"), 4);
        CHECK.due("refused by 4, FITS stays", x.surely(0), 2);
    }

    private static void faultBehindEachRing() {
        CHECK.part("promise 4");
        NineMaps x = new NineMaps();
        CHECK.due("no ring() yet", x.fault(), 0);
        CHECK.refused("ring", x, x.ring(-1), 2);
        CHECK.due("refused by 2: none yet", x.fault(), 0);
        CHECK.refused("ring", x, Check.ring(x, "ring wide 7"), 4);
        CHECK.due("BOUNDS", x.fault(), 4);
        CHECK.refused("ring", x, x.ring(1), 2);
        CHECK.due("refused by 2: of the one ahead", x.fault(), 4);
        x.copies(0);
        x.undo();
        CHECK.due("behind other calls", x.fault(), 4);
        CHECK.refused("ring", x, Check.ring(x, TOWN + ";town p"), 4);
        CHECK.due("TOLD AGAIN", x.fault(), 3);
        CHECK.due("ring", Check.ring(x, TOWN), 1);
        CHECK.due("without one", x.fault(), 0);
        CHECK.refused("ring", x, x.ring(99), 2);
        CHECK.due("still without one", x.fault(), 0);
    }

    private static void whereOnlyOfTheLatest() {
        CHECK.part("promise 5");
        NineMaps x = new NineMaps();
        CHECK.due("no call yet", x.where(), NONE);
        CHECK.refused("ring", x, Check.ring(x, "ring wide 7"), 4);
        CHECK.due("by 4", x.where(), 10);
        x.feed(0, 0, 0, 0, 0);
        x.size(0);
        x.size(99);
        x.fault();
        x.trouble();
        Check.ledThrows(x, 0);
        CHECK.due("still: these aren't refused", x.where(), 10);
        CHECK.due("asked again", x.where(), 10);
        CHECK.refused("ring", x, x.ring(21), 2);
        CHECK.due("by 2", x.where(), NONE);
        CHECK.refused("ring", x, x.ring(20), 4);
        CHECK.due("by 4 at 0", x.where(), 0);
        CHECK.refused("copies", x, x.copies(0), 1);
        CHECK.due("by 1", x.where(), NONE);
        CHECK.due("ring", Check.ring(x, TOWN), 1);
        CHECK.due("it wasn't", x.where(), NONE);
        CHECK.refused("ring", x, Check.ring(x, "ring"), 4);
        CHECK.due("by 4", x.where(), 4);
        x.copies(0);
        CHECK.due("behind a call that may be refused and wasn't", x.where(), NONE);
        CHECK.refused("undo", x, x.undo(), 6);
        CHECK.due("by 6", x.where(), NONE);
    }

    // ---- 6 to 25

    private static void towns() {
        CHECK.part("the first town, the last, one beyond");
        bounds("copies", (x, t) -> x.copies(t), 0, 5, 1);
        bounds("error", (x, t) -> x.error(t, 0), 0, 5, 1);
        bounds("cell", (x, t) -> x.cell(t, 0), 0, 5, 1);
        bounds("first", (x, t) -> x.first(t, 0), 0, 5, 1);
        bounds("after", (x, t) -> x.after(t, 0, 1), 0, 5, 1);
        bounds("many", (x, t) -> x.many(t, 0, 1), 0, 5, 1);
        bounds("unlike t", (x, t) -> x.unlike(t, 0, 1), 0, 5, 1);
        bounds("unlike u", (x, t) -> x.unlike(0, t, 1), 0, 5, 1);
        bounds("trueOnes", (x, t) -> x.trueOnes(t, 1), 0, 5, 1);
        bounds("when", (x, t) -> x.when(t, 0, 0), 0, 5, 1);
        bounds("areas", (x, t) -> x.areas(t, 0, 1), 0, 5, 1);
        bounds("largest", (x, t) -> x.largest(t, 0, 1), 0, 5, 1);
        bounds("scale", (x, t) -> x.scale(t, 1, true), 0, 5, 1);
        bounds("origin", (x, t) -> x.origin(t, 0, 1), 0, 5, 1);
        bounds("blame", (x, t) -> x.blame(t, 0, 1), 0, 5, 1);
        bounds("loop", (x, t) -> x.loop(t), 0, 5, 1);
        bounds("depth", (x, t) -> x.depth(t), 0, 5, 1);
        bounds("strokes t", (x, t) -> x.strokes(t, 0, 0, 0, 0, 1), 0, 5, 1);
        bounds("strokes u", (x, t) -> x.strokes(0, 0, t, 0, 0, 1), 0, 5, 1);
        bounds("ink", (x, t) -> x.ink(t, 0, 0), 0, 5, 1);
    }

    private static void places(String name, Call call) {
        for (int place = -30; place <= 130; place++) {
            if (place >= 0 && place / 10 < 5 && place % 10 < 3) {
                taken(name, call, place);
            } else {
                refused(name, call, place, 1);
            }
        }
        refused(name, call, Integer.MIN_VALUE, 1);
        refused(name, call, Integer.MAX_VALUE, 1);
    }

    private static void places() {
        CHECK.part("the first place, the last, one beyond");
        places("cell", (x, place) -> x.cell(1, place));
        places("first", (x, place) -> x.first(1, place));
        places("after", (x, place) -> x.after(1, place, 1));
        places("when", (x, place) -> x.when(1, place, 0));
        places("origin", (x, place) -> x.origin(1, place, 1));
        places("blame", (x, place) -> x.blame(1, place, 1));
        places("strokes", (x, place) -> x.strokes(0, 0, 1, place, 0, 1));
        places("ink", (x, place) -> x.ink(1, place, 0));
    }

    private static void marks() {
        CHECK.part("the first mark, the last, one beyond");
        bounds("many", (x, mark) -> x.many(1, mark, 1), 0, 3, 1);
        bounds("when", (x, mark) -> x.when(1, 0, mark), 0, 3, 1);
        bounds("areas", (x, mark) -> x.areas(1, mark, 1), 0, 3, 1);
        bounds("largest", (x, mark) -> x.largest(1, mark, 1), 0, 3, 1);
        bounds("strokes mark", (x, mark) -> x.strokes(0, mark, 1, 0, 0, 1), 0, 3, 1);
        bounds("strokes due", (x, mark) -> x.strokes(0, 0, 1, 0, mark, 1), 0, 3, 1);
        bounds("ink", (x, mark) -> x.ink(1, 0, mark), 0, 3, 1);
    }

    private static void roundsBehind() {
        CHECK.part("behind 0, 60, beyond");
        bounds("after", (x, n) -> x.after(1, 0, n), 0, 60, 2);
        bounds("many", (x, n) -> x.many(1, 0, n), 0, 60, 2);
        bounds("unlike", (x, n) -> x.unlike(1, 0, n), 0, 60, 2);
        bounds("trueOnes", (x, n) -> x.trueOnes(1, n), 0, 60, 2);
        bounds("areas", (x, n) -> x.areas(1, 0, n), 0, 60, 2);
        bounds("largest", (x, n) -> x.largest(1, 0, n), 0, 60, 2);
        bounds("origin", (x, n) -> x.origin(1, 0, n), 0, 60, 2);
        bounds("blame", (x, n) -> x.blame(1, 0, n), 0, 60, 2);
        bounds("scale", (x, n) -> x.scale(1, n, false), 0, 12, 2);
        bounds("scale", (x, n) -> x.scale(1, n, true), 0, 12, 2);
        bounds("strokes", (x, n) -> x.strokes(0, 0, 1, 0, 0, n), 0, 12, 2);
    }

    private static void errorsParts() {
        CHECK.part("promise 7");
        bounds("error", (x, what) -> x.error(1, what), 0, 3, 1);
        NineMaps x = six();
        int[][] want = {{0, -2, -2, -2}, {4, -2, -2, -2}, {5, 0, 3, -2}, {6, 1, -2, -2}, {3, 1, 1, -2}, {10, -2, -2, -2}};
        for (int t = 0; t < 6; t++) {
            for (int what = 0; what < 4; what++) {
                CHECK.due("error " + t + " " + what, x.error(t, what), want[t][what]);
                CHECK.due("-2 is no trouble", x.trouble(), 0);
            }
        }
        x.mend(2);
        for (int what = 0; what < 4; what++) {
            CHECK.due("mended " + what, x.error(2, what), what == 0 ? 0 : -2);
        }
        x.undo();
        CHECK.due("undone", x.error(2, 2), 3);
    }

    private static void copiesNobody() {
        CHECK.part("promise 6");
        NineMaps x = six();
        int[] want = {-2, 0, 1, 2, 4, 3};
        for (int t = 0; t < 6; t++) {
            CHECK.due("copies " + t, x.copies(t), want[t]);
            CHECK.due("no trouble", x.trouble(), 0);
        }
    }

    private static void cellAndFirstPartWays() {
        CHECK.part("promises 8, 9");
        NineMaps x = six();
        CHECK.due("the last place", x.cell(3, 42), 3);
        x.draw(3, 42, 0);
        CHECK.due("the last place NOW", x.cell(3, 42), 0);
        CHECK.due("the last place FIRST", x.first(3, 42), 3);
        CHECK.due("the last town", x.cell(5, 42), 1);
        CHECK.due("the first town", x.cell(0, 0), 0);
    }

    private static void whenIsSixtyAtMost() {
        CHECK.part("promise 14");
        // a mark goes right by one each sixth ROUND, and down in the same: of 30 places the tenth is met behind 60
        StringBuilder text = new StringBuilder("ring wide 5 high 6 marks 3;town p baaaa,aaaaa,aaaaa,aaaaa,aaaaa,aaaaa");
        for (int t = 1; t < 6; t++) {
            text.append(";town ").append((char) ('p' + t)).append(" aaaaa,aaaaa,aaaaa,aaaaa,aaaaa,aaaaa");
        }
        text.append(";copies p u by shift 1 1");
        for (int t = 1; t < 6; t++) {
            text.append(";copies ").append((char) ('p' + t)).append(' ').append((char) ('o' + t)).append(" by true");
        }
        NineMaps x = Check.told(text.toString());
        CHECK.due("NOW", x.when(0, 0, 1), 0);
        CHECK.due("NOW, of the last town", x.when(5, 0, 0), 0);
        CHECK.due("behind 1", x.when(1, 0, 1), 1);
        CHECK.due("behind 60", x.when(0, 4, 1), 60);
        CHECK.due("behind 61", x.when(1, 4, 1), -2);
        CHECK.due("-2 is no trouble", x.trouble(), 0);
        CHECK.due("never", x.when(0, 0, 2), -2);
        CHECK.due("gone again", x.when(0, 0, 0), 1);
    }

    private static void nothingThere() {
        CHECK.part("promises 11 to 16, nothing there");
        NineMaps x = six();
        CHECK.due("many", x.many(3, 2, 0), 0);
        CHECK.due("areas", x.areas(3, 2, 0), 0);
        CHECK.due("largest", x.largest(3, 2, 0), 0);
        CHECK.due("no trouble", x.trouble(), 0);
        CHECK.due("many, all but one", x.many(3, 0, 0), 14);
        CHECK.due("unlike itself", x.unlike(5, 5, 60), 0);
        CHECK.due("all as FIRST", x.trueOnes(5, 0), 15);
        x = Check.told("ring wide 2 high 2 marks 2;town p aa,aa;town q bb,bb;copies p q by true");
        CHECK.due("all unlike", x.unlike(0, 1, 0), 4);
        CHECK.due("none unlike", x.unlike(0, 1, 1), 0);
        CHECK.due("none as FIRST", x.trueOnes(0, 60), 0);
        CHECK.due("all of a mark", x.many(0, 1, 60), 4);
        CHECK.due("an area of all", x.largest(0, 1, 60), 4);
    }

    private static void roundRefused() {
        CHECK.part("promise 18");
        NineMaps x = Check.told(TOWN + ";town q aa,aa;copies q q by sneeze b");
        CHECK.refused("somebody sneezes", x, x.round(false), 6);
        CHECK.refused("somebody sneezes", x, x.round(true), 6);
        x.mend(1);
        CHECK.due("mended", x.round(false), 1);
        CHECK.due("no trouble", x.trouble(), 0);
        x.undo();
        CHECK.refused("undone", x, x.round(false), 6);
        x = new NineMaps();
        CHECK.refused("no RING", x, x.round(false), 1);
    }

    private static void originNumbers() {
        CHECK.part("promise 19");
        NineMaps x = six();
        CHECK.due("the first town and place", x.origin(0, 0, 60), 0);
        CHECK.due("the last town and place", x.origin(5, 42, 0), 542);
        CHECK.due("turned", x.origin(1, 42, 1), 0);
        CHECK.due("-2 none", Check.told(TOWN + ";copies p p by blot a 1 1").origin(0, 11, 60), -2);
    }

    private static void blameBits() {
        CHECK.part("promise 20");
        NineMaps x = Check.told("ring wide 2 high 2 marks 2;town p ab,ba;town q aa,aa;town r aa,aa;town s aa,aa;"
            + "town u aa,aa;town v aa,aa;copies p p by swap a b;copies q p by swap a b;copies r q by swap a b;"
            + "copies s r by swap a b;copies u s by swap a b;copies v u by swap a b");
        CHECK.due("none behind 0", x.blame(5, 0, 0), 0);
        for (int n = 1; n <= 5; n++) {
            CHECK.due("behind " + n, x.blame(5, 0, n), 63 - (63 >> n));
        }
        CHECK.due("all of them behind 6", x.blame(5, 0, 6), 63);
        CHECK.due("p's twice is as none", x.blame(5, 0, 7), 62);
        CHECK.due("p's own", x.blame(0, 0, 1), 1);
    }

    private static void strokesBehindTwelve() {
        CHECK.part("promise 23");
        NineMaps x = Check.told("ring wide 4 high 3 marks 2;town p aaaa,aaaa,aaaa;copies p p by shift 1 0");
        CHECK.due("behind 0", x.strokeAt(0, 1, 0, 0, 1, 0, 0), 0);
        CHECK.due("behind 11", x.strokeAt(0, 1, 0, 0, 1, 11, 0), 10);
        CHECK.due("behind 12", x.strokeAt(0, 1, 0, 0, 1, 12, 0), 0);
        CHECK.due("of the last place", x.strokeAt(0, 1, 0, 32, 1, 12, 0), 32);
        CHECK.due("so already", x.strokes(0, 1, 0, 0, 0, 12), 0);
        CHECK.due("it can't be", x.strokes(0, 0, 0, 0, 1, 12), -2);
        CHECK.due("-2 is no trouble", x.trouble(), 0);
    }

    private static void strokeAtBeyond() {
        CHECK.part("promise 24");
        NineMaps x = Check.told("ring wide 3 high 3 marks 3;town p aca,cac,aaa;town q aaa,aaa,aaa;copies q p by stain c");
        CHECK.due("three", x.strokes(0, 0, 1, 11, 0, 1), 3);
        CHECK.due("the first", x.strokeAt(0, 0, 1, 11, 0, 1, 0), 1);
        CHECK.due("the last", x.strokeAt(0, 0, 1, 11, 0, 1, 2), 21);
        int[] beyond = {-1, 3, 4, Integer.MIN_VALUE, Integer.MAX_VALUE};
        for (int i : beyond) {
            CHECK.refused("i " + i, x, x.strokeAt(0, 0, 1, 11, 0, 1, i), 1);
        }
        CHECK.refused("none of none", x, x.strokeAt(0, 0, 1, 11, 2, 1, 0), 1);
        CHECK.refused("none of -2", x, x.strokeAt(1, 0, 1, 11, 0, 1, 0), 1);
        CHECK.refused("none of -2", x, x.strokeAt(1, 0, 1, 11, 0, 1, -2), 1);
        CHECK.refused("likewise 1", x, x.strokeAt(2, 0, 1, 11, 0, 1, 0), 1);
        CHECK.refused("likewise 1", x, x.strokeAt(0, 3, 1, 11, 0, 1, 0), 1);
        CHECK.refused("likewise 1", x, x.strokeAt(0, 0, -1, 11, 0, 1, 0), 1);
        CHECK.refused("likewise 1", x, x.strokeAt(0, 0, 1, 13, 0, 1, 0), 1);
        CHECK.refused("likewise 1", x, x.strokeAt(0, 0, 1, 11, 3, 1, 0), 1);
        CHECK.refused("likewise 2", x, x.strokeAt(0, 0, 1, 11, 0, 13, 0), 2);
        CHECK.refused("likewise 2", x, x.strokeAt(0, 0, 1, 11, 0, -1, 0), 2);
    }

    private static void inkBounds() {
        CHECK.part("promise 25");
        NineMaps x = six();
        CHECK.due("the first place, so already", x.ink(3, 0, 0), 0);
        CHECK.due("the last place, so already", x.ink(3, 42, 3), 0);
        CHECK.due("the last place", x.ink(3, 42, 0), 1);
        CHECK.due("of the last town", x.ink(5, 21, 0), 1);
        CHECK.due("one in", x.ink(5, 21, 2), 2);
    }

    // ---- 26 to 29

    private static void judgeNothingSeen() {
        CHECK.part("promise 26");
        NineMaps x = Check.told(TOWN);
        CHECK.due("nothing seen", x.judge(), -2);
        CHECK.due("-2 is no trouble", x.trouble(), 0);
        x = new NineMaps();
        CHECK.refused("no RING", x, x.judge(), 1);
    }

    private static void judgeTheFirst() {
        CHECK.part("promise 26, the first that isn't so");
        String so = ";seen p 1 0 0 a";
        String not = ";seen p 20 0 0 b";
        CHECK.due("all are so", Check.told(TOWN + so.repeat(8)).judge(), -2);
        for (int i = 0; i < 8; i++) {
            CHECK.due("the first is " + i, Check.told(TOWN + so.repeat(i) + not.repeat(8 - i)).judge(), i);
        }
        // behind 20 of a town that goes round; unknown as true; SEED 0 whatever it is NOW
        NineMaps x = Check.told("ring wide 3 high 2 marks 2;town p baa,aaa;town q baa,aaa;copies p p by shift 1 0;"
            + "copies q p by unknown;seen p 20 2 0 b;seen q 20 1 0 b;seen q 19 0 0 b;seen q 1 0 0 a");
        CHECK.due("judge", x.judge(), 3);
        x = Check.told("ring wide 3 high 3 marks 2;town p aaa,aaa,aaa;copies p p by sneeze b;seen p 1 2 0 b;seen p 1 2 2 a");
        x.seed(74);
        CHECK.due("SEED 0", x.judge(), -2);
        x.rounds(1);
        CHECK.due("from FIRST on", x.judge(), -2);
        CHECK.due("SEED stays", x.size(8), 5_624);
    }

    private static void fitsRefused() {
        CHECK.part("promises 27 to 29, refused");
        String[] texts = {TOWN, TOWN + ";guess true", TOWN + ";copies p p by true;guess true",
            TOWN + ";copies p p by unknown", TOWN + ";copies p p by unknown;seen p 1 0 0 a"};
        for (String text : texts) {
            NineMaps x = Check.told(text);
            CHECK.refused("fits of " + text, x, x.fits(), 6);
            CHECK.refused("fit of " + text, x, x.fit(0, 0), 6);
            CHECK.refused("fit of " + text, x, x.fit(-1, 9), 6);
            CHECK.refused("surely of " + text, x, x.surely(0), 6);
            CHECK.refused("surely of " + text, x, x.surely(9), 6);
        }
    }

    private static void fitsNoRow() {
        CHECK.part("promises 27 to 29, no row");
        NineMaps x = Check.told(TOWN + ";town q aa,aa;copies q p by unknown;guess true;seen q 1 0 0 b");
        CHECK.due("fits", x.fits(), 0);
        CHECK.due("0 is no trouble", x.trouble(), 0);
        CHECK.refused("fit", x, x.fit(0, 1), 1);
        CHECK.refused("fit", x, x.fit(-1, 1), 1);
        CHECK.due("surely", x.surely(1), -2);
        CHECK.due("-2 is no trouble", x.trouble(), 0);
        CHECK.refused("surely of one that isn't unknown", x, x.surely(0), 1);
    }

    private static void fitsAllRows() {
        CHECK.part("promises 27 to 29, all rows");
        StringBuilder text = new StringBuilder(TOWN + ";town q aa,aa;town r aa,aa;town s aa,aa;town u aa,aa");
        for (String name : new String[] {"u", "s", "r", "q"}) {
            text.append(";copies ").append(name).append(" p by unknown");
        }
        NineMaps x = Check.told(text + ";guess true;guess turn;guess fold 1;guess shift 1 1;guess stain a");
        CHECK.due("fits, nothing seen", x.fits(), 625);
        int[] rows = {0, 1, 4, 5, 24, 25, 124, 125, 623, 624};
        for (int i : rows) {
            CHECK.due("q counts most, " + i, x.fit(i, 1), i / 125);
            CHECK.due("r, " + i, x.fit(i, 2), i / 25 % 5);
            CHECK.due("s, " + i, x.fit(i, 3), i / 5 % 5);
            CHECK.due("u counts least, " + i, x.fit(i, 4), i % 5);
        }
        int[] beyond = {-1, 625, 626, Integer.MIN_VALUE, Integer.MAX_VALUE};
        for (int i : beyond) {
            CHECK.refused("row " + i, x, x.fit(i, 1), 1);
        }
        for (int t = 1; t <= 4; t++) {
            CHECK.due("surely " + t, x.surely(t), -2);
        }
        CHECK.refused("not unknown", x, x.fit(0, 0), 1);
        CHECK.refused("not unknown", x, x.surely(0), 1);
        int[] none = {-1, 5, 6, Integer.MIN_VALUE, Integer.MAX_VALUE};
        for (int t : none) {
            CHECK.refused("no town", x, x.fit(0, t), 1);
            CHECK.refused("no town", x, x.surely(t), 1);
        }
        x = Check.told(TOWN + ";copies p p by unknown;guess turn");
        CHECK.due("one row", x.fits(), 1);
        CHECK.due("its guess", x.fit(0, 0), 0);
        CHECK.due("surely", x.surely(0), 0);
        x = Check.told(TOWN + ";town q aa,aa;copies p p by unknown;copies q p by unknown;guess true;guess swap a b;"
            + "seen p 1 0 0 b;seen q 2 0 0 b");
        CHECK.due("the first town is unknown, too", x.fits(), 1);
        CHECK.due("its guess", x.surely(0), 1);
        CHECK.due("the other one's", x.surely(1), 0);
    }

    private static void fitsAsTold() {
        CHECK.part("promises 27 to 29, as told");
        NineMaps x = Check.told("ring wide 2 high 2 marks 2;town p ab,aa;town q aa,aa;town r aa,aa;copies q p by unknown;"
            + "copies r q by unknown;guess true;guess turn;guess fold 1;guess turn;seen q 1 0 1 b;seen r 2 1 0 b");
        CHECK.due("turned back, by each of the like guesses", x.fits(), 4);
        int[][] rows = {{1, 1}, {1, 3}, {3, 1}, {3, 3}};
        for (int i = 0; i < 4; i++) {
            CHECK.due("q " + i, x.fit(i, 1), rows[i][0]);
            CHECK.due("r " + i, x.fit(i, 2), rows[i][1]);
        }
        CHECK.due("not surely", x.surely(1), -2);
        x.mend(1);
        x.draw(0, 10, 0);
        x.rounds(2);
        x.copy(2, 2);
        x.seed(1);
        CHECK.due("acts change nothing of it", x.fits(), 4);
        CHECK.due("mended NOW, unknown as told", x.fit(3, 1), 3);
        CHECK.due("mended NOW, unknown as told", x.surely(1), -2);
        CHECK.due("unknown NOW still", x.error(2, 0), 10);
    }

    private static void surelyNone() {
        CHECK.part("promise 29");
        String text = "ring wide 2 high 2 marks 2;town p ab,aa;town q aa,aa;town r aa,aa;copies q p by unknown;"
            + "copies r p by unknown;guess true;guess turn";
        NineMaps x = Check.told(text + ";seen q 1 1 0 b");
        CHECK.due("fits", x.fits(), 2);
        CHECK.due("the first guess", x.surely(1), 0);
        CHECK.due("either", x.surely(2), -2);
        x = Check.told(text + ";seen r 1 0 1 b");
        CHECK.due("either", x.surely(1), -2);
        CHECK.due("the last guess", x.surely(2), 1);
    }

    // ---- 30 to 37

    /** What is done from low to high, and refused below least and above high; what lies between is so already. */
    private static void acts(String name, Act act, int least, int low, int high, int trouble, int kept) {
        for (int n = low; n <= high; n += Math.max(1, (high - low) / 8)) {
            NineMaps x = six();
            x.undo();
            CHECK.due(name + " of " + n, act.does(x, n), true);
            CHECK.due(name + " of " + n + ", trouble()", x.trouble(), 0);
            CHECK.due(name + " of " + n + ", ACTS", x.size(9), kept);
        }
        int[] beyond = {least - 1, high + 1, -2, Integer.MIN_VALUE, Integer.MAX_VALUE};
        for (int n : beyond) {
            NineMaps x = six();
            String before = all(x);
            CHECK.refused(name + " of " + n, x, act.does(x, n), trouble);
            CHECK.dueText("all stays", all(x), before);
        }
    }

    private static void roundsOneToSixty() {
        CHECK.part("promise 30");
        bounds("rounds", (x, n) -> x.rounds(n), 1, 60, 2);
        refused("rounds", (x, n) -> x.rounds(n), 0, 2);
        NineMaps x = six();
        CHECK.due("one", x.rounds(1), 1);
        CHECK.due("in all", x.rounds(60), 61);
        CHECK.due("in all", x.rounds(60), 121);
        CHECK.due("size(7)", x.size(7), 121);
        CHECK.refused("refused", x, x.rounds(61), 2);
        CHECK.due("size(7)", x.size(7), 121);
        x.undo();
        CHECK.due("in all, but the undone", x.rounds(2), 63);
        NineMaps one = six();
        for (int i = 0; i < 60; i++) {
            one.rounds(1);
        }
        NineMaps many = six();
        many.rounds(60);
        for (int t = 0; t < 6; t++) {
            CHECK.dueText("sixty at once", Check.map(many, t, 0), Check.map(one, t, 0));
            CHECK.dueText("behind sixty", Check.map(six(), t, 60), Check.map(one, t, 0));
        }
    }

    private static void drawIsSoAlready() {
        CHECK.part("promise 31");
        acts("draw, t", (x, t) -> x.draw(t, 42, 2 - x.cell(t, 42) / 2 * 2), 0, 0, 5, 1, 1);
        acts("draw, mark", (x, mark) -> x.draw(0, 0, mark), 0, 1, 3, 1, 1);
        NineMaps x = six();
        for (int place = -12; place < 130; place++) {
            boolean there = place >= 0 && place / 10 < 5 && place % 10 < 3;
            if (!there) {
                CHECK.refused("draw " + place, x, x.draw(0, place, 0), 1);
            } else {
                int mark = x.cell(0, place);
                CHECK.refused("it is so already " + place, x, x.draw(0, place, mark), 5);
                CHECK.due("draw " + place, x.draw(0, place, 3 - mark), true);
                CHECK.due("drawn " + place, x.cell(0, place), 3 - mark);
            }
        }
        CHECK.refused("draw", x, x.draw(0, Integer.MIN_VALUE, 0), 1);
        CHECK.refused("draw", x, x.draw(0, Integer.MAX_VALUE, 0), 1);
        CHECK.refused("draw", x, x.draw(0, 0, 4), 1);
        CHECK.refused("draw", x, x.draw(0, 0, -1), 1);
    }

    private static void mendIsTrueAlready() {
        CHECK.part("promise 32");
        acts("mend", (x, t) -> x.mend(t), 0, 1, 5, 1, 1);
        NineMaps x = six();
        CHECK.refused("one that copies nobody", x, x.mend(0), 5);
        CHECK.due("mend", x.mend(1), true);
        CHECK.refused("once more", x, x.mend(1), 5);
        CHECK.due("one unknown isn't true", x.mend(5), true);
        CHECK.due("it still copies", x.copies(5), 3);
        CHECK.refused("and now it is", x, x.mend(5), 5);
        x = Check.told(TOWN + ";copies p p by true");
        CHECK.refused("told as true", x, x.mend(0), 5);
    }

    private static void copyItCopiesThatOne() {
        CHECK.part("promise 33");
        acts("copy, t", (x, t) -> x.copy(t, 5), 0, 0, 5, 1, 1);
        acts("copy, u", (x, u) -> x.copy(0, u), 0, 0, 5, 1, 1);
        int[] copied = {-2, 0, 1, 2, 4, 3};
        for (int t = 0; t < 6; t++) {
            NineMaps x = six();
            for (int u = 0; u < 6; u++) {
                if (u == copied[t]) {
                    CHECK.refused("it copies that one", x, x.copy(t, u), 5);
                }
            }
            CHECK.due("itself, or it does already", x.copy(t, t), copied[t] != t);
            CHECK.due("copies", x.copies(t), t);
            CHECK.refused("it copies itself", x, x.copy(t, t), 5);
        }
        NineMaps x = six();
        CHECK.due("one that copied nobody", x.copy(0, 1), true);
        CHECK.due("by true", x.error(0, 0), 0);
        CHECK.due("how many copy", x.size(4), 6);
        CHECK.due("by the ERROR it has", x.copy(2, 0), true);
        CHECK.due("swap", x.error(2, 0), 5);
        x.undo();
        x.undo();
        CHECK.due("nobody again", x.copies(0), -2);
        CHECK.due("how many copy", x.size(4), 5);
    }

    private static void seedBounds() {
        CHECK.part("promise 34");
        acts("seed", (x, v) -> x.seed(v), 0, 0, 65_536, 2, 0);
        NineMaps x = six();
        CHECK.due("seed", x.seed(65_536), true);
        CHECK.due("SEED", x.size(8), 65_536);
        CHECK.refused("beyond", x, x.seed(65_537), 2);
        CHECK.due("SEED stays", x.size(8), 65_536);
        CHECK.due("the same again", x.seed(65_536), true);
        CHECK.due("seed", x.seed(0), true);
        CHECK.due("SEED", x.size(8), 0);
        CHECK.refused("no ACT", x, x.undo(), 6);
    }

    private static void undoNothing() {
        CHECK.part("promise 35");
        NineMaps x = six();
        CHECK.refused("nothing yet", x, x.undo(), 6);
        x.seed(5);
        x.keep();
        CHECK.refused("neither SEED nor KEEP", x, x.undo(), 6);
        String before = all(x);
        x.rounds(60);
        x.draw(5, 42, 3 - x.cell(5, 42));
        x.mend(5);
        x.copy(5, 5);
        CHECK.due("ACTS", x.size(9), 4);
        for (int i = 3; i >= 0; i--) {
            CHECK.due("undo", x.undo(), true);
            CHECK.due("ACTS", x.size(9), i);
        }
        CHECK.dueText("all is as ahead of them", all(x), before);
        CHECK.refused("nothing any more", x, x.undo(), 6);
        CHECK.dueText("all is as ahead of them", all(x), before);
        x.rounds(1);
        x.undo();
        CHECK.refused("undone can't be undone", x, x.undo(), 6);
        x.rounds(1);
        x.back(0);
        CHECK.refused("gone back to a KEEP", x, x.undo(), 6);
    }

    private static void refusedActsAreNotKept() {
        CHECK.part("promise 35, refused");
        NineMaps x = six();
        x.rounds(0);
        x.rounds(61);
        x.draw(0, 0, 0);
        x.draw(0, 50, 0);
        x.mend(0);
        x.mend(6);
        x.copy(1, 0);
        x.copy(1, 6);
        x.seed(65_537);
        CHECK.due("ACTS", x.size(9), 0);
        CHECK.refused("undo", x, x.undo(), 6);
        // and they push none of the 12 out
        for (int i = 0; i < 12; i++) {
            x.rounds(1);
        }
        x.rounds(0);
        x.draw(0, 0, x.cell(0, 0));
        x.mend(0);
        for (int i = 0; i < 12; i++) {
            CHECK.due("undo", x.undo(), true);
        }
        CHECK.due("ROUNDS", x.size(7), 0);
    }

    private static void keepAFourth() {
        CHECK.part("promise 36");
        NineMaps x = six();
        CHECK.due("keep", x.keep(), 0);
        x.rounds(1);
        CHECK.due("keep", x.keep(), 1);
        x.rounds(1);
        CHECK.due("keep", x.keep(), 2);
        x.rounds(1);
        CHECK.refused("a fourth", x, x.keep(), 3);
        for (int i = 2; i >= 0; i--) {
            CHECK.due("back", x.back(i), true);
            CHECK.due("ROUNDS", x.size(7), i);
            CHECK.due("KEEPS", x.size(10), 3);
        }
        CHECK.due("a KEEP is of its number", x.back(2), true);
        CHECK.due("ROUNDS", x.size(7), 2);
        CHECK.due("a new RING", Check.ring(x, SIX), 6);
        CHECK.due("has room", x.keep(), 0);
    }

    private static void backThereIsNone() {
        CHECK.part("promise 37");
        NineMaps x = six();
        int[] none = {0, -1, 1, 3, Integer.MIN_VALUE, Integer.MAX_VALUE};
        for (int keep : none) {
            CHECK.refused("back " + keep, x, x.back(keep), 1);
        }
        x.keep();
        x.rounds(1);
        String before = all(x);
        CHECK.refused("back 1", x, x.back(1), 1);
        CHECK.refused("back -1", x, x.back(-1), 1);
        CHECK.dueText("all stays", all(x), before);
        CHECK.due("undo", x.undo(), true);
        x.keep();
        x.keep();
        CHECK.due("the last", x.back(2), true);
        CHECK.refused("back 3", x, x.back(3), 1);
    }

    // ---- 38 to 40

    private static void ledBounds() {
        CHECK.part("promise 38");
        NineMaps x = six();
        CHECK.due("nobody", Check.ledThrows(x, 0), true);
        for (int t = 5; t >= 0; t--) {
            x.draw(t, 42, 3 - x.cell(t, 42));
            for (int i = 0; i <= 5 - t; i++) {
                CHECK.due("led " + i, x.led(i), t + i);
            }
            int[] none = {-1, 6 - t, 7, Integer.MIN_VALUE, Integer.MAX_VALUE};
            for (int i : none) {
                CHECK.due("led " + i + " throws", Check.ledThrows(x, i), true);
            }
        }
        x.draw(2, 42, x.first(2, 42));
        CHECK.due("one is as FIRST again", x.led(2), 3);
        CHECK.due("so there are five", Check.ledThrows(x, 5), true);
        x = Check.told(TOWN);
        x.draw(0, 11, 1);
        CHECK.due("in its last place", x.led(0), 0);
        x.undo();
        x.draw(0, 0, 1);
        CHECK.due("in its first place", x.led(0), 0);
    }

    private static void sizeNumbers() {
        CHECK.part("promise 39");
        NineMaps x = lively();
        x.feed(0, 0, 0, 0, 0);
        int[] sizes = {5, 3, 4, 6, 6, 3, 2, 2, 77, 4, 1, 20};
        for (int what = 0; what <= 11; what++) {
            CHECK.due("size " + what, x.size(what), sizes[what]);
        }
        int[] others = {-1, -2, 12, 13, 100, Integer.MIN_VALUE, Integer.MAX_VALUE};
        for (int what : others) {
            CHECK.due("size " + what, x.size(what), NONE);
        }
        x = Check.told(TOWN);
        int[] plain = {2, 2, 2, 1, 0, 0, 0, 0, 0, 0, 0, 0};
        for (int what = 0; what <= 11; what++) {
            CHECK.due("what there isn't, " + what, x.size(what), plain[what]);
        }
    }
}
