import java.util.HashMap;
import java.util.Map;
import java.util.function.Consumer;

/** Terms II to IV: a method for each sentence that names a boundary case. */
public final class EdgeTermsTest {
    private static final Check CHECK = new Check();
    private static final int NONE = NineMaps.NONE;
    private static final String TOWN = "ring wide 2 high 2 marks 2;town p ab,ba";
    /** Four towns round, the first with a stain: 63 ROUNDS, and from then on 360 that come again. */
    private static final String LONG = "ring wide 5 high 6 marks 3;town p cbccc,ccbcc,acaca,aaacb,abbbb,aacca;"
        + "town q babab,accca,cabca,bccca,bbbca,cabac;town r ccbab,baaba,cccbc,babab,accac,aaaaa;"
        + "town s caaac,ccccb,bacca,abcac,cbbbc,bbcab;copies p q by stain c;copies q r by swap b a;"
        + "copies r s by swap b c;copies s p by shift 3 1";

    /** 416 ROUNDS, and from then on 24 that come again. */
    private static final String LATE = "ring wide 6 high 5 marks 6;town p bcfcce,dffebd,edfcde,baaccd,afcace;"
        + "town q bcfffd,fcdfcc,bcfcdf,deffaa,accbec;town r feeafa,bcdafa,fedbca,bbbfec,afbadd;"
        + "town s dbeaac,aeddfe,ddadae,edbaae,beadba;town t cedfdf,cdaeec,dcfacf,eabded,afecef;"
        + "town u bbdddd,ebaadf,eddfbf,acfadd,dbeecb;copies p q by stain d;copies q r by shift 0 1;"
        + "copies r s by swap c e;copies s t by shift 2 1;copies t u by swap a c;copies u p by swap e d";
    /** Six towns round, so that it takes over 2,000 ROUNDS until all comes again. */
    private static final String NEVER = "ring wide 3 high 5 marks 4;town p bbd,bcb,bad,acd,abb;"
        + "town q ddd,acc,bbc,dcd,baa;town r adc,cad,aac,dac,dad;town s aaa,bca,daa,dcc,dcb;town t caa,cbc,abd,cbc,ccb;"
        + "town u bda,acb,cac,aad,bdc;copies p q by stain a;copies q r by swap b a;copies r s by swap a c;"
        + "copies s t by shift 1 1;copies t u by swap d a;copies u p by blot c 1 1";

    public static void main(String[] args) {
        allTownsAtOnce();
        trueAndUnknown();
        blotAtTheCorners();
        foldBelowZero();
        shiftRound();
        turnAcrossTheMiddle();
        swapTheseTwo();
        stainAtTheEdges();
        erasedIsA();
        stretchDownwards();
        sneezeAtItsPlace();
        severalSneezeInOneRound();
        allSixSneeze();
        seedAt65536();
        aTownThatCopiesItself();
        aTownThatCopiesNobody();
        behindIsFromNowOn();
        behindIsFromWhatIsNow();
        theLargestBehindTheMost();
        firstIsAsTold();
        comesAgainAtOnce();
        comesAgainBehind400AtMost();
        comesAgainNotForLong();
        comesAgainWhateverTheyCopy();
        originOfNone();
        originByAStain();
        blameOnlyOfAnotherMark();
        strokesNoneToThree();
        strokesTheFirstByPlaces();
        strokesOfManyPlaces();
        strokesOfTheTownThatItComesFrom();
        areasHangBySides();
        inkAtTheEdge();
        scaleAsAFraction();
        loopNone();
        depthNone();
        undoTwelveAreKept();
        undoSeedToo();
        keepsUpToThree();
        backToAKeep();
        marksInCalls();
        placesInCalls();
        eachNumberOfTrouble();
        callsThatLeaveTrouble();
        callsThatClearTrouble();
        CHECK.end();
    }

    private static void dueMap(String what, NineMaps x, int t, int n, String want) {
        CHECK.dueText(what, Check.map(x, t, n), want);
    }

    private static String plain(String rows) {
        return rows.replaceAll("[a-f]", "a");
    }

    /** A town p, and q that copies it by an ERROR, all a. */
    private static NineMaps by(String rows, String error) {
        String[] all = rows.split(",");
        return Check.told("ring wide " + all[0].length() + " high " + all.length + " marks 6;town p " + rows
            + ";town q " + plain(rows) + ";copies q p by " + error);
    }

    /** Looked at behind one ROUND, and then as it went by. */
    private static void becomes(String rows, String error, String want) {
        NineMaps x = by(rows, error);
        CHECK.part(rows + " by " + error);
        dueMap("behind 1", x, 1, 1, want);
        dueMap("the copied one", x, 0, 1, rows);
        x.rounds(1);
        dueMap("gone by", x, 1, 0, want);
    }

    // ---- II

    private static void allTownsAtOnce() {
        CHECK.part("all at once");
        NineMaps x = Check.told("ring wide 2 high 2 marks 6;town p aa,aa;town q bb,bb;town r cc,cc;"
            + "copies p r by true;copies q p by true;copies r q by true");
        x.rounds(1);
        dueMap("p", x, 0, 0, "cc,cc");
        dueMap("q", x, 1, 0, "aa,aa");
        dueMap("r", x, 2, 0, "bb,bb");
        dueMap("p behind 1", x, 0, 1, "bb,bb");
    }

    private static void trueAndUnknown() {
        becomes("abc,fed", "true", "abc,fed");
        becomes("abc,fed", "unknown", "abc,fed");
    }

    private static void blotAtTheCorners() {
        becomes("abc,fed", "blot e 0 0", "ebc,fed");
        becomes("abc,fed", "blot e 2 0", "abe,fed");
        becomes("abc,fed", "blot e 0 1", "abc,eed");
        becomes("abc,fed", "blot e 2 1", "abc,fee");
        becomes("abc,fed", "blot a 0 0", "abc,fed");
    }

    private static void foldBelowZero() {
        becomes("abcdef,fedcba", "fold 1", "aaaaaa,ffffff");
        becomes("abcdef,fedcba", "fold 2", "abbaaa,feefff");
        becomes("abcdef,fedcba", "fold 3", "abccba,feddef");
        becomes("abcdef,fedcba", "fold 4", "abcddc,fedccd");
        becomes("abcdef,fedcba", "fold 5", "abcdee,fedcbb");
        becomes("ab,dc", "fold 1", "aa,dd");
    }

    private static void shiftRound() {
        becomes("abc,def", "shift 0 0", "abc,def");
        becomes("abc,def", "shift 1 0", "cab,fde");
        becomes("abc,def", "shift 0 1", "def,abc");
        becomes("abc,def", "shift 3 2", "abc,def");
        becomes("abc,def", "shift 5 5", "efd,bca");
        becomes("abcdef,aaaaaa", "shift 5 0", "bcdefa,aaaaaa");
        becomes("ab,cd,ef,ab,cd,ef", "shift 0 5", "cd,ef,ab,cd,ef,ab");
        becomes("ab,cd", "shift 5 4", "ba,dc");
        becomes("ab,cd,ef,ba", "shift 0 5", "ba,ab,cd,ef");
        becomes("ab,cd,ef,ba,dc", "shift 0 3", "ef,ba,dc,ab,cd");
        becomes("abcd,aaaa", "shift 5 0", "dabc,aaaa");
        becomes("abcde,aaaaa", "shift 3 0", "cdeab,aaaaa");
    }

    private static void turnAcrossTheMiddle() {
        becomes("abc,def,abb", "turn", "bba,fed,cba");
        becomes("ab,cd", "turn", "dc,ba");
        becomes("abcdef,fedcbb", "turn", "bbcdef,fedcba");
        becomes("ab,cd,ef", "turn", "fe,dc,ba");
    }

    private static void swapTheseTwo() {
        becomes("abc,def", "swap a f", "fbc,dea");
        becomes("abc,def", "swap f a", "fbc,dea");
        becomes("bbb,ccc", "swap a f", "bbb,ccc");
    }

    private static void stainAtTheEdges() {
        becomes("caa,aaa,aaa", "stain c", "cca,caa,aaa");
        becomes("aac,aaa,aaa", "stain c", "acc,aac,aaa");
        becomes("aaa,aaa,caa", "stain c", "aaa,caa,cca");
        becomes("aaa,aaa,aac", "stain c", "aaa,aac,acc");
        becomes("aca,aaa,aaa", "stain c", "ccc,aca,aaa");
        becomes("aaa,aca,aaa", "stain c", "aca,ccc,aca");
        // not round, not from a row's end to the next row, not aslant
        becomes("aaaaaa,caaaaa,aaaaaa", "stain c", "caaaaa,ccaaaa,caaaaa");
        becomes("aaaaaa,aaaaac,aaaaaa", "stain c", "aaaaac,aaaacc,aaaaac");
        becomes("ca,aa,aa,aa,aa,aa", "stain c", "cc,ca,aa,aa,aa,aa");
        becomes("aa,aa,aa,aa,aa,ac", "stain c", "aa,aa,aa,aa,ac,cc");
        // as it was, not as it becomes; other marks stay
        becomes("cbdbdb", "stain c", "ccdbdb", "dbdbdb");
        becomes("abd,def", "stain c", "abd,def");
    }

    private static void becomes(String row, String error, String want, String below) {
        becomes(row + "," + below, error, want + ",c" + below.substring(1));
    }

    private static void erasedIsA() {
        becomes("abc,bcb", "erase b", "aac,aca");
        becomes("abc,bcb", "erase a", "abc,bcb");
        becomes("abc,bcb", "erase f", "abc,bcb");
        becomes("ff,ff", "erase f", "aa,aa");
    }

    private static void stretchDownwards() {
        becomes("abcdef,aaaaaa", "stretch 5", "aabbcc,aabbcc");
        becomes("abcdef,aaaaaa", "stretch 6", "aabbcd,aabbcd");
        becomes("abcdef,aaaaaa", "stretch 7", "aabccd,aabccd");
        becomes("abcdef,aaaaaa", "stretch 8", "aabcde,aabcde");
        becomes("abcdef,aaaaaa", "stretch 9", "aabcde,aabcde");
        becomes("ab,bb,cb,db,eb,fb", "stretch 5", "aa,aa,bb,bb,cc,cc");
        becomes("ab,bb,cb,db,eb,fb", "stretch 7", "aa,aa,bb,cc,cc,dd");
        becomes("ab,bb,cb,db,eb,fb", "stretch 9", "aa,aa,bb,cc,dd,ee");
    }

    /** SEED 0 goes on as 74, 5,624, 28,652. */
    private static void sneezeAtItsPlace() {
        becomes("aaa,aaa,aaa", "sneeze b", "aab,aaa,aaa");
        becomes("aa,aa,aa", "sneeze b", "aa,ba,aa");
        becomes("aaa,aaa", "sneeze b", "aab,aaa");
        becomes("aaaaaa,aaaaaa", "sneeze b", "aabaaa,aaaaaa");
        becomes("aaaa,aaaa,aaaa", "sneeze b", "aaba,aaaa,aaaa");
        // 74 mod 36 is 2, mod 25 it is 24, mod 30 it is 14
        becomes("aaaaaa,aaaaaa,aaaaaa,aaaaaa,aaaaaa,aaaaaa", "sneeze b", "aabaaa,aaaaaa,aaaaaa,aaaaaa,aaaaaa,aaaaaa");
        becomes("aaaaa,aaaaa,aaaaa,aaaaa,aaaaa", "sneeze b", "aaaaa,aaaaa,aaaaa,aaaaa,aaaab");
        becomes("aaaaa,aaaaa,aaaaa,aaaaa,aaaaa,aaaaa", "sneeze b", "aaaaa,aaaaa,aaaab,aaaaa,aaaaa,aaaaa");
        becomes("bbb,bbb", "sneeze b", "bbb,bbb");
    }

    private static void severalSneezeInOneRound() {
        CHECK.part("several sneeze");
        // told last to first: the DRAWS are by numbers of towns all the same
        NineMaps x = Check.told("ring wide 3 high 3 marks 3;town p aaa,aaa,aaa;town q aaa,aaa,aaa;town r aaa,aaa,aaa;"
            + "copies r r by sneeze b;copies q q by true;copies p p by sneeze c");
        dueMap("p, 74 mod 9", x, 0, 1, "aac,aaa,aaa");
        dueMap("r, 5,624 mod 9", x, 2, 1, "aaa,aaa,aab");
        dueMap("p, 28,652 mod 9", x, 0, 2, "aac,aac,aaa");
        CHECK.due("SEED stays", x.size(8), 0);
        x.rounds(1);
        CHECK.due("SEED, two DRAWS", x.size(8), 5_624);
        dueMap("p", x, 0, 0, "aac,aaa,aaa");
        dueMap("r", x, 2, 0, "aaa,aaa,aab");
        dueMap("q", x, 1, 0, "aaa,aaa,aaa");
        x.undo();
        x.rounds(60);
        long seed = 0;
        for (int i = 0; i < 120; i++) {
            seed = (75 * seed + 74) % 65_537;
        }
        CHECK.due("SEED, 120 DRAWS", x.size(8), seed);
        x.mend(0);
        x.seed(0);
        x.rounds(1);
        CHECK.due("who is mended doesn't draw", x.size(8), 74);
        CHECK.due("r's is the first DRAW", x.cell(2, 20), 1);
    }

    private static void allSixSneeze() {
        CHECK.part("all six sneeze");
        StringBuilder text = new StringBuilder("ring wide 6 high 6 marks 6");
        for (char town = 'p'; town < 'v'; town++) {
            text.append(";town ").append(town).append(" aaaaaa,aaaaaa,aaaaaa,aaaaaa,aaaaaa,aaaaaa;copies ");
            text.append(town).append(' ').append(town).append(" by sneeze f");
        }
        NineMaps x = Check.told(text.toString());
        long seed = 0;
        for (int t = 0; t < 6; t++) {
            seed = (75 * seed + 74) % 65_537;
            int place = (int) (seed % 36);
            CHECK.due("the draw of " + t, x.after(t, place % 6 * 10 + place / 6, 1), 5);
            CHECK.due("and no other place", x.many(t, 5, 1), 1);
        }
        x.rounds(1);
        CHECK.due("SEED, six DRAWS", x.size(8), seed);
    }

    /** 75 times 65,536 and 74 is one less than 75 times 65,537: so this SEED stays. */
    private static void seedAt65536() {
        CHECK.part("SEED 65,536");
        NineMaps x = Check.told("ring wide 3 high 3 marks 3;town p aaa,aaa,aaa;copies p p by sneeze b");
        CHECK.due("seed", x.seed(65_536), true);
        dueMap("65,536 mod 9 is 7", x, 0, 1, "aaa,aaa,aba");
        dueMap("again and again", x, 0, 60, "aaa,aaa,aba");
        x.rounds(1);
        CHECK.due("SEED", x.size(8), 65_536);
        x.seed(65_535);
        x.rounds(1);
        CHECK.due("SEED behind 65,535", x.size(8), 75L * 65_535 % 65_537 + 74);
    }

    private static void aTownThatCopiesItself() {
        CHECK.part("itself");
        NineMaps x = Check.told("ring wide 3 high 2 marks 3;town p abc,aab;copies p p by shift 1 0");
        dueMap("behind 0", x, 0, 0, "abc,aab");
        dueMap("behind 1", x, 0, 1, "cab,baa");
        dueMap("behind 2", x, 0, 2, "bca,aba");
        dueMap("behind 60", x, 0, 60, "abc,aab");
        x.rounds(59);
        dueMap("59 gone by", x, 0, 0, "bca,aba");
        CHECK.due("loop", x.loop(0), 1);
        CHECK.due("depth", x.depth(0), -2);
        CHECK.due("round", x.round(false), 3);
        CHECK.due("origin", x.origin(0, 0, 4), 20);
    }

    private static void aTownThatCopiesNobody() {
        CHECK.part("nobody");
        NineMaps x = Check.told("ring wide 3 high 2 marks 3;town p abc,aab");
        dueMap("behind 60", x, 0, 60, "abc,aab");
        CHECK.due("rounds", x.rounds(60), 60);
        dueMap("gone by", x, 0, 0, "abc,aab");
        CHECK.due("copies", x.copies(0), -2);
        CHECK.due("its sort", x.error(0, 0), 0);
        CHECK.due("how many copy", x.size(4), 0);
        CHECK.due("loop", x.loop(0), 0);
        CHECK.due("depth", x.depth(0), 0);
        CHECK.due("round", x.round(false), 1);
        CHECK.due("REST", x.round(true), 0);
        CHECK.due("scale", x.scale(0, 12, true), 1);
        CHECK.due("origin", x.origin(0, 21, 60), 21);
        CHECK.due("blame", x.blame(0, 21, 60), 0);
        CHECK.due("SEED", x.size(8), 0);
        CHECK.due("led", Check.ledThrows(x, 0), true);
    }

    private static void behindIsFromNowOn() {
        CHECK.part("BEHIND");
        NineMaps x = Check.told("ring wide 3 high 3 marks 3;town p aaa,aaa,aaa;copies p p by sneeze b");
        x.rounds(1);
        dueMap("behind 1 from NOW on, by the SEED that is", x, 0, 1, "aab,aaa,aab");
        CHECK.due("SEED is looked at only", x.size(8), 74);
        x.draw(0, 0, 2);
        dueMap("what was drawn", x, 0, 1, "cab,aaa,aab");
        x.seed(0);
        dueMap("another SEED", x, 0, 1, "cab,aaa,aaa");
    }

    private static void behindIsFromWhatIsNow() {
        CHECK.part("BEHIND, asked ahead of an ACT and behind it");
        NineMaps x = Check.told("ring wide 2 high 2 marks 3;town p ca,ba;town q aa,aa;town r aa,aa;town s aa,aa;"
            + "copies q p by true;copies r q by erase c;copies s q by stain c");
        CHECK.due("erased", x.after(2, 0, 2), 0);
        CHECK.due("stained", x.after(3, 10, 2), 2);
        CHECK.due("many", x.many(3, 2, 2), 3);
        x.draw(0, 0, 1);
        CHECK.due("not erased", x.after(2, 0, 2), 1);
        CHECK.due("not stained", x.after(3, 10, 2), 0);
        CHECK.due("many", x.many(3, 2, 2), 0);
        CHECK.due("origin", x.origin(2, 0, 2), 0);
        x.draw(0, 0, 2);
        CHECK.due("erased again", x.origin(2, 0, 2), -2);
        x.mend(2);
        CHECK.due("mended", x.after(2, 0, 2), 2);
        x.copy(1, 2);
        CHECK.due("copied from another one", x.after(2, 0, 2), 0);
    }

    private static void theLargestBehindTheMost() {
        CHECK.part("6 wide, 6 high, behind 60");
        StringBuilder text = new StringBuilder("ring wide 6 high 6 marks 6");
        for (char town = 'p'; town < 'v'; town++) {
            text.append(";town ").append(town).append(" faaaaa,aaaaaa,aaaaaa,aaaaaa,aaaaaa,aaaaab;copies ");
            text.append(town).append(' ').append(town).append(town == 'p' ? " by shift 1 1" : " by stain b");
        }
        NineMaps x = Check.told(text.toString());
        dueMap("round ten times", x, 0, 60, "faaaaa,aaaaaa,aaaaaa,aaaaaa,aaaaaa,aaaaab");
        dueMap("all stained", x, 5, 60, "bbbbbb,bbbbbb,bbbbbb,bbbbbb,bbbbbb,bbbbbb");
        CHECK.due("many", x.many(5, 1, 60), 36);
        CHECK.due("areas", x.areas(5, 1, 60), 1);
        CHECK.due("largest", x.largest(5, 1, 60), 36);
        CHECK.due("unlike", x.unlike(4, 5, 60), 0);
        CHECK.due("trueOnes", x.trueOnes(5, 60), 1);
        CHECK.due("origin", x.origin(5, 0, 60), 555);
        CHECK.due("round", x.round(false), 6);
        CHECK.due("REST", x.round(true), 10);
    }

    private static void firstIsAsTold() {
        CHECK.part("FIRST");
        NineMaps x = Check.told("ring wide 2 high 2 marks 2;town p ab,ba;town q bb,bb;copies q p by turn");
        x.draw(0, 0, 1);
        x.rounds(3);
        x.copy(0, 1);
        x.mend(1);
        x.keep();
        x.rounds(2);
        int[] first = {0, 1, 1, 0};
        int[] places = {0, 1, 10, 11};
        for (int i = 0; i < 4; i++) {
            CHECK.due("p", x.first(0, places[i]), first[i]);
            CHECK.due("q", x.first(1, places[i]), 1);
        }
    }

    // ---- III

    private static void comesAgainAtOnce() {
        CHECK.part("COMES AGAIN at once");
        NineMaps x = Check.told(TOWN + ";copies p p by turn");
        CHECK.due("turned it is the same", x.round(false), 1);
        CHECK.due("REST", x.round(true), 0);
        x.draw(0, 0, 1);
        CHECK.due("turned it isn't", x.round(false), 2);
        x = Check.told(TOWN + ";copies p p by blot a 1 0");
        CHECK.due("blotted it isn't what it was", x.round(true), 1);
        CHECK.due("but then", x.round(false), 1);
        x = Check.told(TOWN + ";copies p p by blot b 0 0");
        CHECK.due("the first place alone", x.round(true), 1);
        x = Check.told(TOWN + ";copies p p by blot a 0 1");
        CHECK.due("the last row alone", x.round(true), 1);
    }

    /** Behind how many ROUNDS all first comes again, and how long that is: by going on, map by map. */
    private static int[] comesAgain(NineMaps x) {
        Map<String, Integer> met = new HashMap<>();
        for (int n = 0; n < 3000; n++) {
            StringBuilder all = new StringBuilder();
            for (int t = 0; t < x.size(3); t++) {
                all.append(Check.map(x, t, 0)).append(';');
            }
            Integer old = met.putIfAbsent(all.toString(), n);
            if (old != null) {
                return new int[] {old, n - old};
            }
            x.rounds(1);
        }
        return new int[] {NONE, NONE};
    }

    private static void comesAgainBehind400AtMost() {
        CHECK.part("COMES AGAIN behind 400");
        int[] found = comesAgain(Check.told(LONG));
        CHECK.due("REST in this one", found[0], 63);
        CHECK.due("ROUND in this one", found[1], 360);
        NineMaps x = Check.told(LONG);
        CHECK.due("behind 423", x.round(false), -2);
        CHECK.due("behind 423", x.round(true), -2);
        CHECK.due("-2 is no trouble", x.trouble(), 0);
        x.rounds(22);
        CHECK.due("behind 401", x.round(false), -2);
        CHECK.due("behind 401", x.round(true), -2);
        x.rounds(1);
        CHECK.due("behind 400", x.round(false), 360);
        CHECK.due("behind 400", x.round(true), 40);
        x.rounds(39);
        CHECK.due("REST", x.round(true), 1);
        x.rounds(1);
        CHECK.due("REST", x.round(true), 0);
        x.rounds(1);
        CHECK.due("REST", x.round(true), 0);
        CHECK.due("ROUND", x.round(false), 360);
        // a short ROUND behind a long REST
        found = comesAgain(Check.told(LATE));
        CHECK.due("REST in this one", found[0], 416);
        CHECK.due("ROUND in this one", found[1], 24);
        x = Check.told(LATE);
        CHECK.due("behind 440", x.round(true), -2);
        x.rounds(39);
        CHECK.due("behind 401", x.round(true), -2);
        CHECK.due("behind 401", x.round(false), -2);
        x.rounds(1);
        CHECK.due("behind 400", x.round(true), 376);
        CHECK.due("behind 400", x.round(false), 24);
    }

    private static void comesAgainNotForLong() {
        CHECK.part("COMES AGAIN, not for long");
        NineMaps x = Check.told(NEVER);
        CHECK.due("ROUND", x.round(false), -2);
        CHECK.due("REST", x.round(true), -2);
        CHECK.due("-2 is no trouble", x.trouble(), 0);
        int[] found = comesAgain(x);
        CHECK.due("indeed", found[0] == NONE || found[0] + found[1] > 2000, true);
    }

    private static void comesAgainWhateverTheyCopy() {
        CHECK.part("COMES AGAIN, whatever they copy");
        // a town that nobody copies comes late to its rest, and counts
        NineMaps x = Check.told("ring wide 6 high 2 marks 2;town p baaaaa,aaaaaa;town q aaaaaa,aaaaaa;copies q q by stain b");
        CHECK.due("nothing to stain", x.round(true), 0);
        x.draw(1, 0, 1);
        CHECK.due("stained behind 6", x.round(true), 6);
        CHECK.due("ROUND", x.round(false), 1);
        // two that come again behind 4 and behind 6 come again together behind 12
        x = Check.told("ring wide 4 high 6 marks 2;town p baaa,aaaa,aaaa,aaaa,aaaa,aaaa;"
            + "town q baaa,aaaa,aaaa,aaaa,aaaa,aaaa;copies p p by shift 1 0;copies q q by shift 0 1");
        CHECK.due("ROUND", x.round(false), 12);
    }

    private static void originOfNone() {
        CHECK.part("ORIGIN none");
        CHECK.due("a blot", by("abc,def", "blot e 2 1").origin(1, 21, 1), -2);
        CHECK.due("a blot of the mark that was there", by("abc,def", "blot f 2 1").origin(1, 21, 1), -2);
        CHECK.due("beside the blot", by("abc,def", "blot e 2 1").origin(1, 11, 1), 11);
        CHECK.due("an erased mark", by("abc,def", "erase f").origin(1, 21, 1), -2);
        CHECK.due("an a erased", by("abc,def", "erase a").origin(1, 0, 1), -2);
        CHECK.due("a mark that stays", by("abc,def", "erase f").origin(1, 11, 1), 11);
        CHECK.due("a sneeze", by("abc,def", "sneeze a").origin(1, 20, 1), -2);
        CHECK.due("a sneeze of the mark that was there", by("abc,def", "sneeze c").origin(1, 20, 1), -2);
        CHECK.due("beside the sneeze", by("abc,def", "sneeze a").origin(1, 21, 1), 21);
        CHECK.due("behind 0 all is its own", by("abc,def", "blot e 2 1").origin(1, 21, 0), 121);
        // none, and then moved on
        NineMaps x = Check.told("ring wide 2 high 2 marks 2;town p ab,ba;town q aa,aa;town r aa,aa;"
            + "copies q p by blot a 0 0;copies r q by turn");
        CHECK.due("turned from the blot", x.origin(2, 11, 2), -2);
        CHECK.due("turned from beside it", x.origin(2, 1, 2), 10);
        CHECK.due("of q NOW", x.origin(2, 11, 1), 100);
    }

    private static void originByAStain() {
        CHECK.part("ORIGIN by a stain");
        CHECK.due("itself, the others have it too", by("aca,ccc,aca", "stain c").origin(1, 11, 1), 11);
        CHECK.due("left ahead of all", by("aca,cac,aca", "stain c").origin(1, 11, 1), 1);
        CHECK.due("right ahead of above, below", by("aca,aac,aca", "stain c").origin(1, 11, 1), 21);
        CHECK.due("above ahead of below", by("aca,aaa,aca", "stain c").origin(1, 11, 1), 10);
        CHECK.due("below", by("aaa,aaa,aca", "stain c").origin(1, 11, 1), 12);
        CHECK.due("else itself", by("cac,aaa,cac", "stain c").origin(1, 11, 1), 11);
        CHECK.due("at a corner", by("aca,caa,aaa", "stain c").origin(1, 0, 1), 10);
        CHECK.due("at the other corner", by("aaa,aac,aca", "stain c").origin(1, 22, 1), 12);
        CHECK.due("swapped, from where it was", by("abc,def", "swap a f").origin(1, 21, 1), 21);
        CHECK.due("folded below 0", by("abcdef,fedcba", "fold 1").origin(1, 51, 1), 1);
        CHECK.due("shifted round", by("abc,def", "shift 5 5").origin(1, 0, 1), 11);
        CHECK.due("stretched downwards", by("abcdef,aaaaaa", "stretch 9").origin(1, 51, 1), 40);
    }

    private static void blameOnlyOfAnotherMark() {
        CHECK.part("BLAME");
        CHECK.due("behind 0", by("abc,def", "turn").blame(1, 0, 0), 0);
        CHECK.due("turned", by("abc,def", "turn").blame(1, 0, 1), 2);
        CHECK.due("turned, but alike", by("abc,dea", "turn").blame(1, 0, 1), 0);
        CHECK.due("true", by("abc,def", "true").blame(1, 0, 1), 0);
        CHECK.due("unknown", by("abc,def", "unknown").blame(1, 0, 1), 0);
        CHECK.due("blotted as it is", by("abc,def", "blot a 0 0").blame(1, 0, 1), 0);
        CHECK.due("of the copied one", by("abc,def", "turn").blame(0, 0, 1), 0);
        // each alone turns, both turn back: were one true, another mark would stand there
        NineMaps x = Check.told("ring wide 2 high 2 marks 2;town p ab,bb;town q aa,aa;town r aa,aa;town s aa,aa;"
            + "town u aa,aa;town v aa,aa;copies u p by turn;copies v u by turn");
        CHECK.due("the two last ones", x.blame(5, 0, 2), 16 + 32);
        CHECK.due("where they are alike", x.blame(5, 10, 2), 0);
        CHECK.due("one of them", x.blame(5, 0, 1), 0);
    }

    private static void strokesNoneToThree() {
        CHECK.part("STROKES 0 to 3");
        String[] rows = {"aaa,aaa,aaa", "aaa,caa,aaa", "aca,caa,aaa", "aca,cac,aaa", "aca,cac,aca"};
        int[] fewest = {0, 1, 2, 3, -2};
        int[] places = {1, 10, 21};
        for (int i = 0; i < rows.length; i++) {
            NineMaps x = by(rows[i], "stain c");
            CHECK.due(rows[i], x.strokes(0, 0, 1, 11, 0, 1), fewest[i]);
            CHECK.due("no trouble", x.trouble(), 0);
            for (int k = 0; k < fewest[i]; k++) {
                CHECK.due(rows[i] + ", " + k, x.strokeAt(0, 0, 1, 11, 0, 1, k), places[k]);
            }
            CHECK.refused("strokeAt beyond", x, x.strokeAt(0, 0, 1, 11, 0, 1, Math.max(0, fewest[i])), 1);
            CHECK.refused("strokeAt -1", x, x.strokeAt(0, 0, 1, 11, 0, 1, -1), 1);
            CHECK.refused("strokeAt 3", x, x.strokeAt(0, 0, 1, 11, 0, 1, 3), 1);
            dueMap("nothing is drawn", x, 0, 0, rows[i]);
        }
        // three more that don't matter are no way to three
        CHECK.due("four", by("acac,cacc,accc", "stain c").strokes(0, 0, 1, 11, 0, 1), -2);
    }

    private static void strokesTheFirstByPlaces() {
        CHECK.part("STROKES, the first by places");
        NineMaps x = by("aaa,aaa,aaa", "stain c");
        CHECK.due("one of five", x.strokes(0, 2, 1, 11, 2, 1), 1);
        CHECK.due("column by column", x.strokeAt(0, 2, 1, 11, 2, 1, 0), 1);
        CHECK.due("one of three", x.strokeAt(0, 2, 1, 0, 2, 1, 0), 0);
        CHECK.due("from above", x.strokeAt(0, 2, 1, 22, 2, 1, 0), 12);
        x = by("aaa,baa,aaa", "stain c");
        CHECK.due("of another mark", x.strokeAt(0, 2, 1, 11, 2, 1, 0), 1);
        // all around 11 must be stained, and it by itself: 11 alone does all of that
        x = Check.told("ring wide 3 high 3 marks 2;town p aaa,aaa,aaa;town q aaa,aaa,aaa;town r aaa,aaa,aaa;"
            + "town s aaa,aaa,aaa;copies q p by stain b;copies r q by swap a b;copies s r by stain b");
        CHECK.due("the only one", x.strokes(0, 1, 3, 11, 0, 3), 1);
        CHECK.due("the only one", x.strokeAt(0, 1, 3, 11, 0, 3, 0), 11);
        // all around 11 must be stained, but not from 11 itself: 0 and 22 do but for 11; so 0, 1, 22
        x = Check.told("ring wide 3 high 3 marks 2;town p aaa,aaa,aaa;town q aaa,aaa,aaa;town r aaa,aaa,aaa;"
            + "town s aaa,aaa,aaa;town u aaa,aaa,aaa;copies q p by blot a 1 1;copies r q by stain b;"
            + "copies s r by swap a b;copies u s by stain b");
        CHECK.due("so many like ones", x.strokes(0, 1, 4, 11, 0, 4), 3);
        int[] places = {0, 1, 22};
        for (int i = 0; i < 3; i++) {
            CHECK.due("the place " + i, x.strokeAt(0, 1, 4, 11, 0, 4, i), places[i]);
        }
        for (int place : places) {
            x.draw(0, place, 1);
        }
        CHECK.due("drawn so", x.after(4, 11, 4), 0);
        CHECK.due("drawn so", x.strokes(0, 1, 4, 11, 0, 4), 0);
    }

    private static void strokesOfManyPlaces() {
        CHECK.part("STROKES of many places");
        String row = "aaaaaa,aaaaaa,aaaaaa,aaaaaa,aaaaaa,aaaaaa";
        // as in the small one, but of twelve places: column 0 stains the left one, and so on
        NineMaps x = Check.told("ring wide 6 high 6 marks 2;town p " + row + ";town q " + row + ";town r " + row
            + ";town s " + row + ";town u " + row + ";copies q p by blot a 2 2;copies r q by stain b;"
            + "copies s r by swap a b;copies u s by stain b");
        CHECK.due("three of twelve", x.strokes(0, 1, 4, 22, 0, 4), 3);
        int[] places = {2, 21, 33};
        for (int i = 0; i < 3; i++) {
            CHECK.due("the place " + i, x.strokeAt(0, 1, 4, 22, 0, 4, i), places[i]);
        }
        // all of the places around must be drawn, whichever way: four are too many
        x = by("aaaaaa,aacaaa,acacaa,aacaaa,aaaaaa,aaaaaa", "stain c");
        CHECK.due("four", x.strokes(0, 1, 1, 22, 0, 1), -2);
        x.draw(0, 32, 0);
        CHECK.due("three", x.strokes(0, 1, 1, 22, 0, 1), 3);
        // nothing helps, of the most places and behind the most rounds
        x = Check.told("ring wide 6 high 6 marks 6;town p " + row + ";town q " + row + ";copies q p by stain b;"
            + "town r " + row + ";copies r q by stain c;town s " + row + ";copies s r by stain d;"
            + "town u " + row + ";copies u s by stain e;town v " + row + ";copies v u by stain f");
        CHECK.due("none of them is an e", x.strokes(0, 3, 5, 33, 4, 12), -2);
        int mark = 5;
        CHECK.due("an f", x.strokes(0, mark, 5, 33, mark, 12), 1);
        CHECK.due("five away at most", x.strokeAt(0, mark, 5, 33, mark, 12, 0), 23);
        CHECK.due("an e comes from two away", x.strokeAt(0, 4, 5, 33, 4, 12, 0), 23);
        CHECK.due("a d comes from there, too", x.strokeAt(0, 3, 5, 33, 3, 12, 0), 23);
        for (int due = 1; due < 6; due++) {
            CHECK.due("each mark " + due, x.strokes(0, due, 5, 33, due, 12), 1);
        }
    }

    private static void strokesOfTheTownThatItComesFrom() {
        CHECK.part("STROKES of the town that it comes from");
        NineMaps x = by("aaa,aaa,aaa", "turn");
        CHECK.due("behind 0 its own place", x.strokes(1, 2, 1, 22, 2, 0), 1);
        CHECK.due("behind 0 its own place", x.strokeAt(1, 2, 1, 22, 2, 0, 0), 22);
        CHECK.due("behind 0 another one's", x.strokes(0, 2, 1, 22, 2, 0), -2);
        CHECK.due("behind 1 the copied one's", x.strokeAt(0, 2, 1, 22, 2, 1, 0), 0);
        CHECK.due("behind 1 its own", x.strokes(1, 2, 1, 22, 2, 1), -2);
        CHECK.due("behind 12", x.strokeAt(0, 2, 1, 22, 2, 12, 0), 0);
        CHECK.due("by another mark", x.strokes(0, 1, 1, 22, 2, 12), -2);
        CHECK.due("so already, whatever the town", x.strokes(1, 1, 1, 22, 0, 12), 0);
        x = by("aaa,aaa,aaa", "blot b 2 2");
        CHECK.due("under a blot", x.strokes(0, 2, 1, 22, 2, 1), -2);
        x = by("aaa,aaa,aaa", "swap a c");
        CHECK.due("swapped", x.strokes(0, 0, 1, 22, 2, 1), 0);
        CHECK.due("swapped", x.strokes(0, 2, 1, 22, 0, 1), 1);
        x = by("bbb,bbb,bbb", "erase c");
        CHECK.due("erased", x.strokes(0, 2, 1, 12, 0, 1), 1);
        CHECK.due("erased", x.strokeAt(0, 2, 1, 12, 0, 1, 0), 12);
        x = by("bbb,bbb,bbb", "sneeze c");
        CHECK.due("under a sneeze", x.strokes(0, 3, 1, 20, 3, 1), -2);
    }

    private static void dueAreas(String rows, int mark, int count, int most) {
        NineMaps x = by(rows, "true");
        CHECK.due(rows + ", areas", x.areas(0, mark, 0), count);
        CHECK.due(rows + ", largest", x.largest(0, mark, 0), most);
        CHECK.due(rows + ", areas of the copy", x.areas(1, mark, 1), count);
        CHECK.due(rows + ", largest of the copy", x.largest(1, mark, 1), most);
    }

    private static void areasHangBySides() {
        CHECK.part("AREA");
        dueAreas("bbb,bbb", 1, 1, 6);
        dueAreas("aaa,aaa", 1, 0, 0);
        dueAreas("bab,aba", 1, 3, 1);
        dueAreas("baa,aaa", 1, 1, 1);
        dueAreas("bba,aab", 1, 2, 2);
        dueAreas("baaaab,baaaab", 1, 2, 2);
        dueAreas("aaaaab,baaaaa", 1, 2, 1);
        dueAreas("ba,aa,aa,aa,aa,ba", 1, 2, 1);
        dueAreas("bbbbbb,abaaab,abbaab,aaaaab,bbbbbb,baaaaa", 1, 1, 19);
        dueAreas("aaaaaa,aaaaaa,aaaaaa,aaaaaa,aaaaaa,aaaaaa", 0, 1, 36);
        dueAreas("ababab,bababa,ababab,bababa,ababab,bababa", 0, 18, 1);
        NineMaps x = by("aaab,aaac", "true");
        CHECK.due("a large one", x.largest(0, 0, 0), 6);
        CHECK.due("then a small one", x.largest(0, 1, 0), 1);
        CHECK.due("then none", x.largest(0, 4, 0), 0);
        CHECK.due("then none", x.areas(0, 4, 0), 0);
    }

    private static void inkAtTheEdge() {
        CHECK.part("INK");
        NineMaps x = by("aaaaaa,aaaaaa,aaaaaa,aaaaaa,aaaaaa,aaaaaa", "true");
        int[] edges = {0, 5, 50, 55, 20, 3, 53, 35};
        for (int place : edges) {
            CHECK.due("at the edge " + place, x.ink(0, place, 1), 1);
            CHECK.due("at the edge, so already " + place, x.ink(0, place, 0), 0);
        }
        int[] next = {11, 14, 41, 44, 21, 12};
        for (int place : next) {
            CHECK.due("one in " + place, x.ink(0, place, 1), 2);
        }
        int[] middle = {22, 23, 32, 33};
        for (int place : middle) {
            CHECK.due("two in " + place, x.ink(0, place, 1), 3);
            CHECK.due("so already " + place, x.ink(0, place, 0), 0);
        }
        x = by("aaaaaa,abaaaa,aabbaa,aaabaa,aaaaba,aaaaaa", "true");
        CHECK.due("aslant it doesn't hang together", x.ink(0, 33, 1), 2);
        CHECK.due("one in, it has the mark", x.ink(0, 11, 1), 1);
        x = by("bbb,bab,bbb", "true");
        CHECK.due("all around", x.ink(0, 11, 0), 1);
        CHECK.due("itself", x.ink(0, 11, 1), 1);
        x = by("ab,ba", "true");
        CHECK.due("two wide, all is edge", x.ink(0, 11, 0), 0);
        CHECK.due("two wide, all is edge", x.ink(0, 11, 1), 1);
        x = by("aaaaa,abbba,abaaa,abbba,aaaba", "true");
        CHECK.due("a long way that costs nothing", x.ink(0, 31, 1), 0);
        CHECK.due("the end of it", x.ink(0, 33, 1), 0);
        x.draw(0, 12, 0);
        CHECK.due("a drawing is NOW", x.ink(0, 31, 1), 1);
    }

    private static void dueScale(NineMaps x, int t, int n, long upper, long lower) {
        CHECK.due("upper of " + t + " behind " + n, x.scale(t, n, false), upper);
        CHECK.due("lower of " + t + " behind " + n, x.scale(t, n, true), lower);
    }

    private static void scaleAsAFraction() {
        CHECK.part("SCALE");
        NineMaps x = Check.told(TOWN + ";town q ab,ba;town r ab,ba;town s ab,ba;town u ab,ba;copies q p by stretch 5;"
            + "copies r q by turn;copies s r by stretch 6;copies u u by stretch 8");
        dueScale(x, 1, 0, 1, 1);
        dueScale(x, 1, 1, 1, 2);
        dueScale(x, 1, 12, 1, 2);
        dueScale(x, 2, 1, 1, 1);
        dueScale(x, 2, 2, 1, 2);
        dueScale(x, 3, 1, 3, 5);
        dueScale(x, 3, 2, 3, 5);
        dueScale(x, 3, 3, 3, 10);
        dueScale(x, 3, 12, 3, 10);
        dueScale(x, 4, 1, 4, 5);
        dueScale(x, 4, 12, 16_777_216, 244_140_625);
        dueScale(x, 0, 12, 1, 1);
        x = Check.told(TOWN + ";copies p p by stretch 9");
        dueScale(x, 0, 12, 282_429_536_481L, 1_000_000_000_000L);
        x = Check.told(TOWN + ";copies p p by stretch 7");
        dueScale(x, 0, 12, 13_841_287_201L, 1_000_000_000_000L);
        x = Check.told(TOWN + ";copies p p by stretch 5");
        dueScale(x, 0, 12, 1, 4_096);
        x.mend(0);
        dueScale(x, 0, 12, 1, 1);
    }

    private static void loopNone() {
        CHECK.part("LOOP");
        NineMaps x = Check.told(TOWN + ";town q ab,ba;town r ab,ba;town s ab,ba;town u ab,ba;town v ab,ba;"
            + "copies p q by true;copies q p by true;copies r p by true;copies s s by true;copies u s by true");
        int[] loops = {2, 2, 0, 1, 0, 0};
        for (int t = 0; t < 6; t++) {
            CHECK.due("loop " + t, x.loop(t), loops[t]);
        }
        x.copy(0, 5);
        CHECK.due("broken", x.loop(1), 0);
        x.copy(5, 4);
        x.copy(3, 2);
        x.copy(2, 1);
        for (int t = 0; t < 6; t++) {
            CHECK.due("all six round, " + t, x.loop(t), 6);
        }
    }

    private static void depthNone() {
        CHECK.part("DEPTH");
        NineMaps x = Check.told(TOWN + ";town q ab,ba;town r ab,ba;town s ab,ba;town u ab,ba;town v ab,ba;"
            + "copies p q by true;copies q r by true;copies r s by true;copies s u by true;copies u v by true");
        for (int t = 0; t < 6; t++) {
            CHECK.due("depth " + t, x.depth(t), 5 - t);
        }
        x.copy(5, 5);
        for (int t = 0; t < 6; t++) {
            CHECK.due("to one that copies itself, " + t, x.depth(t), -2);
            CHECK.due("-2 is no trouble", x.trouble(), 0);
        }
        x.copy(5, 0);
        CHECK.due("round", x.depth(3), -2);
        x.undo();
        x.undo();
        CHECK.due("undone", x.depth(0), 5);
    }

    private static void undoTwelveAreKept() {
        CHECK.part("UNDO");
        for (int acts = 1; acts <= 14; acts++) {
            NineMaps x = Check.told(TOWN + ";copies p p by true");
            for (int i = 0; i < acts; i++) {
                x.rounds(1);
            }
            int kept = Math.min(12, acts);
            CHECK.due("size(9)", x.size(9), kept);
            for (int i = 1; i <= kept; i++) {
                CHECK.due("undo " + i, x.undo(), true);
                CHECK.due("ROUNDS", x.size(7), acts - i);
                CHECK.due("size(9)", x.size(9), kept - i);
            }
            CHECK.refused("undo of " + acts, x, x.undo(), 6);
            CHECK.due("ROUNDS", x.size(7), acts - kept);
        }
    }

    private static void undoSeedToo() {
        CHECK.part("UNDO, SEED too");
        NineMaps x = Check.told("ring wide 2 high 2 marks 2;town p aa,aa;copies p p by sneeze b");
        x.seed(7);
        x.rounds(1);
        CHECK.due("SEED", x.size(8), 75 * 7 + 74);
        x.undo();
        CHECK.due("SEED as ahead of it", x.size(8), 7);
        x.draw(0, 0, 1);
        x.seed(9);
        x.undo();
        CHECK.due("a SEED told behind the ACT goes, too", x.size(8), 7);
        CHECK.refused("a SEED is no ACT", x, x.undo(), 6);
        CHECK.due("it stays", x.size(8), 7);
    }

    private static void keepsUpToThree() {
        CHECK.part("KEEPS");
        NineMaps x = Check.told(TOWN);
        for (int i = 0; i < 3; i++) {
            CHECK.refused("back ahead of it", x, x.back(i), 1);
            CHECK.due("keep", x.keep(), i);
            CHECK.due("size(10)", x.size(10), i + 1);
        }
        CHECK.refused("a fourth", x, x.keep(), 3);
        CHECK.due("size(10)", x.size(10), 3);
        x.back(0);
        CHECK.refused("all stay, so there is no room", x, x.keep(), 3);
    }

    private static void backToAKeep() {
        CHECK.part("KEEPS, back");
        NineMaps x = Check.told("ring wide 2 high 2 marks 2;town p aa,aa;town q bb,bb;copies q p by sneeze b");
        x.seed(5);
        x.rounds(2);
        x.draw(0, 0, 1);
        x.keep();
        String maps = Check.map(x, 0, 0) + ";" + Check.map(x, 1, 0);
        int seed = x.size(8);
        x.rounds(3);
        x.mend(1);
        x.copy(0, 1);
        x.draw(1, 0, 1 - x.cell(1, 0));
        x.seed(1);
        CHECK.due("acts", x.size(9), 6);
        CHECK.due("back", x.back(0), true);
        CHECK.due("nothing can be undone", x.size(9), 0);
        CHECK.refused("undo", x, x.undo(), 6);
        CHECK.dueText("maps", Check.map(x, 0, 0) + ";" + Check.map(x, 1, 0), maps);
        CHECK.due("SEED", x.size(8), seed);
        CHECK.due("ROUNDS", x.size(7), 2);
        CHECK.due("its ERROR", x.error(1, 0), 9);
        CHECK.due("its MARK", x.error(1, 1), 1);
        CHECK.due("copies", x.copies(0), -2);
        x.draw(0, 0, 0);
        CHECK.due("an ACT behind it can be undone", x.undo(), true);
        CHECK.refused("but none ahead of it", x, x.undo(), 6);
    }

    private static void marksInCalls() {
        CHECK.part("MARKS in calls");
        NineMaps x = Check.told("ring wide 2 high 3 marks 6;town p ab,cd,ef");
        int[] places = {0, 10, 1, 11, 2, 12};
        for (int mark = 0; mark < 6; mark++) {
            CHECK.due("cell", x.cell(0, places[mark]), mark);
            CHECK.due("first", x.first(0, places[mark]), mark);
            CHECK.due("many", x.many(0, mark, 0), 1);
        }
        CHECK.refused("many", x, x.many(0, 6, 0), 1);
        CHECK.refused("many", x, x.many(0, -1, 0), 1);
    }

    private static void placesInCalls() {
        CHECK.part("places in calls");
        NineMaps x = Check.told("ring wide 6 high 2 marks 6;town p abcdef,fedcba");
        for (int column = 0; column < 6; column++) {
            CHECK.due("above", x.cell(0, 10 * column), column);
            CHECK.due("below", x.cell(0, 10 * column + 1), 5 - column);
            CHECK.refused("below the last row", x, x.cell(0, 10 * column + 2), 1);
            CHECK.refused("row 9", x, x.cell(0, 10 * column + 9), 1);
        }
        CHECK.refused("right of the last column", x, x.cell(0, 60), 1);
        CHECK.refused("left of the first", x, x.cell(0, -10), 1);
        CHECK.refused("left of the first, one below", x, x.cell(0, -9), 1);
    }

    // ---- IV

    private static void eachNumberOfTrouble() {
        CHECK.part("TROUBLE");
        NineMaps x = new NineMaps();
        CHECK.due("no call yet", x.trouble(), 0);
        CHECK.refused("1", x, x.copies(0), 1);
        CHECK.refused("2", x, x.ring(1), 2);
        CHECK.refused("4", x, x.ring(0), 4);
        CHECK.refused("6", x, x.undo(), 6);
        CHECK.due("ring", Check.ring(x, TOWN), 1);
        CHECK.due("0", x.trouble(), 0);
        CHECK.refused("1", x, x.copies(1), 1);
        CHECK.refused("2", x, x.rounds(0), 2);
        x.keep();
        x.keep();
        x.keep();
        CHECK.due("0", x.trouble(), 0);
        CHECK.refused("3", x, x.keep(), 3);
        CHECK.refused("5", x, x.mend(0), 5);
        CHECK.refused("6", x, x.fits(), 6);
        // of two that hold, the one that the promise tells first
        CHECK.refused("1 ahead of 2", x, x.after(1, 0, 61), 1);
        CHECK.refused("1 ahead of 2", x, x.strokes(0, 0, 0, 0, 2, 13), 1);
        CHECK.refused("2 ahead of 1 (i)", x, x.strokeAt(0, 0, 0, 0, 0, 13, 9), 2);
        CHECK.refused("6 ahead of 1 (town)", x, x.surely(9), 6);
        CHECK.refused("1 ahead of 5", x, x.draw(1, 0, 0), 1);
    }

    private static void callsThatLeaveTrouble() {
        CHECK.part("calls that leave TROUBLE");
        NineMaps x = Check.told(TOWN);
        x.draw(0, 0, 1);
        for (int trouble = 0; trouble < 2; trouble++) {
            x.copies(trouble);
            for (int what = -1; what <= 12; what++) {
                x.size(what);
                CHECK.due("behind size " + what, x.trouble(), trouble);
            }
            CHECK.due("behind trouble", x.trouble(), trouble);
            x.fault();
            CHECK.due("behind fault", x.trouble(), trouble);
            x.where();
            CHECK.due("behind where", x.trouble(), trouble);
            x.led(0);
            CHECK.due("behind led", x.trouble(), trouble);
            CHECK.due("led throws", Check.ledThrows(x, 1), true);
            CHECK.due("behind led that throws", x.trouble(), trouble);
            for (int i = 0; i < 46; i++) {
                x.feed(0, 0, 0, 0, 0);
                CHECK.due("behind feed", x.trouble(), trouble);
            }
        }
    }

    private static void clears(String call, Consumer<NineMaps> made) {
        NineMaps x = Check.told("ring wide 2 high 2 marks 2;town p ab,ba;town q aa,aa;copies q p by unknown;guess turn");
        x.draw(0, 0, 1);
        x.keep();
        CHECK.refused("rounds", x, x.rounds(61), 2);
        made.accept(x);
        CHECK.due("behind " + call, x.trouble(), 0);
    }

    private static void callsThatClearTrouble() {
        CHECK.part("calls that clear TROUBLE");
        clears("ring", x -> Check.ring(x, TOWN));
        clears("copies", x -> x.copies(1));
        clears("copies, -2", x -> x.copies(0));
        clears("error", x -> x.error(1, 0));
        clears("error, -2", x -> x.error(1, 3));
        clears("cell", x -> x.cell(1, 11));
        clears("first", x -> x.first(1, 11));
        clears("after", x -> x.after(1, 11, 60));
        clears("many", x -> x.many(1, 1, 60));
        clears("unlike", x -> x.unlike(1, 0, 60));
        clears("trueOnes", x -> x.trueOnes(1, 60));
        clears("when", x -> x.when(1, 11, 1));
        clears("when, -2", x -> x.when(0, 0, 0));
        clears("areas", x -> x.areas(1, 1, 60));
        clears("largest", x -> x.largest(1, 1, 60));
        clears("scale", x -> x.scale(1, 12, true));
        clears("round", x -> x.round(true));
        clears("origin", x -> x.origin(1, 11, 60));
        clears("blame", x -> x.blame(1, 11, 60));
        clears("loop", x -> x.loop(1));
        clears("depth", x -> x.depth(1));
        clears("strokes", x -> x.strokes(0, 1, 1, 11, 1, 12));
        clears("strokes, -2", x -> x.strokes(1, 1, 1, 11, 1, 12));
        clears("strokeAt", x -> x.strokeAt(0, 1, 1, 11, 1, 12, 0));
        clears("ink", x -> x.ink(1, 11, 1));
        clears("judge, -2", x -> x.judge());
        clears("fits", x -> x.fits());
        clears("fit", x -> x.fit(0, 1));
        clears("surely", x -> x.surely(1));
        clears("rounds", x -> x.rounds(60));
        clears("draw", x -> x.draw(1, 11, 1));
        clears("mend", x -> x.mend(1));
        clears("copy", x -> x.copy(1, 1));
        clears("seed", x -> x.seed(65_536));
        clears("undo", x -> x.undo());
        clears("keep", x -> x.keep());
        clears("back", x -> x.back(0));
    }
}
