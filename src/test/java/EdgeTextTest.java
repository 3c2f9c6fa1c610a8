/** Terms I: a method for each sentence that names a boundary of the text of a RING. */
public final class EdgeTextTest {
    private static final Check CHECK = new Check();
    private static final String RING = "ring wide 2 high 2 marks 2";
    private static final String TOWN = RING + ";town p ab,ba";
    /** Wider marks than columns, more rows than columns: no bound is like another one. */
    private static final String UNLIKE = "ring wide 3 high 5 marks 4;town p aaa,aaa,aaa,aaa,aaa";

    public static void main(String[] args) {
        theTapeHas900Bytes();
        blanksPartTokensAndMeanNothingElse();
        wordsHaveOneToEightSmallLetters();
        wholesHaveOneToTwoDigits();
        singleOnes();
        theEmptyText();
        blanksAlone();
        aTextThatEndsTooEarly();
        theRingsWholes();
        theRingStandsAheadOfAllOthers();
        asManyRowsAsHigh();
        rowsOfAsManyLettersAsWide();
        eachLetterAMark();
        upToSixTowns();
        mayCopyItself();
        copiesOnceForEach();
        blotsPlace();
        foldsColumn();
        shiftsWholes();
        swapsMarksAreUnlike();
        stretchesTenths();
        marksOfOneLetter();
        upToFourUnknown();
        noneIsGuessedOfUnknownSneeze();
        upToFiveGuesses();
        seenBehindOneToTwenty();
        seenColumnAndRow();
        upToEightSeen();
        namesAreWordsButSix();
        namesAreToldOnceAheadOfTheirUse();
        columnsFromTheLeftRowsFromAbove();
        theFirstFromTheLeft();
        ofOnePlaceTheLeastNumber();
        CHECK.end();
    }

    private static void fault(int number, String marked) {
        CHECK.fault(number, marked);
    }

    private static NineMaps good(String text) {
        int towns = 0;
        for (String line : text.split(";")) {
            towns += line.strip().startsWith("town") ? 1 : 0;
        }
        return CHECK.good(text, towns);
    }

    private static String behind(String text, int length) {
        return text + " ".repeat(length - text.length());
    }

    private static void theTapeHas900Bytes() {
        good(behind(TOWN, 900));
        good(behind(RING + ";town p ab,", 898) + "ba");
        fault(1, behind(TOWN, 899) + "^!");
        fault(6, behind(RING, 900) + "^");
        fault(7, behind(RING + ";town p ab,", 899) + "^b");
    }

    private static void blanksPartTokensAndMeanNothingElse() {
        good("ring wide 2 high 2 marks 2;town p ab,ba");
        good("  ring  wide  2  high  2  marks  2  ;  town  p  ab  ,  ba  ");
        good("ring wide2high2marks2;town p ab,ba");
        NineMaps x = good(TOWN + ";copies p p by shift 1 5");
        CHECK.due("parted", x.error(0, 1), 1);
        CHECK.due("parted", x.error(0, 2), 5);
        fault(4, TOWN + ";copies p p by shift ^15");
        fault(1, "^ri ng wide 2");
        fault(7, RING + ";town p ^a b,ba");
        fault(4, "ring wide ^1 2");
        // no other byte parts them
        fault(1, "ring^\t");
        fault(1, "ring^\n");
        fault(1, "ring^\r");
        fault(1, "ring^\u00a0");
        fault(1, "ring^\u0000");
        fault(1, "ring^_wide");
    }

    private static void wordsHaveOneToEightSmallLetters() {
        good(RING + ";town z ab,ba;copies z z by true");
        good(RING + ";town abcdefgh ab,ba;copies abcdefgh abcdefgh by true");
        good(RING + ";town zzzzzzzz ab,ba;town zzzzzzzy ab,ba;town zzzzzzz ab,ba");
        NineMaps x = good(RING + ";town a ab,ba;town aa ab,ba;town b ab,ba;town bb ab,ba;town ab ab,ba;town ba ab,ba"
            + ";copies ba ab by true;copies bb aa by true");
        CHECK.due("a word of the same letters", x.copies(5), 4);
        CHECK.due("a word of the same letter", x.copies(3), 1);
        for (String word : new String[] {"bing", "rinf", "sing", "xing", "rin", "rings"}) {
            fault(1, "^" + word + " wide 2");
        }
        for (String word : new String[] {"down", "topn", "xopies", "copiez", "huess", "guest", "teen", "seed"}) {
            fault(1, TOWN + ";^" + word + " p 1 0 0 a");
        }
        for (String word : new String[] {"drue", "trug", "clot", "gold", "thift", "burn", "staim", "rwap"}) {
            fault(1, TOWN + ";copies p p by ^" + word);
        }
        fault(1, TOWN + ";copies p p ^my true");
        fault(1, "ring ^hide 2");
        fault(1, "ring wide 2 ^nigh 2");
        fault(1, "ring wide 2 high 2 ^parks 2");
        fault(1, RING + ";town ^abcdefghi ab,ba");
        fault(1, RING + ";town p ab,ba;copies ^ppppppppp");
        fault(1, TOWN + ";copies p p by ^unknownnn");
        fault(1, RING + ";town ^A ab,ba");
        fault(1, RING + ";town p^A ab,ba");
        fault(1, "^Ring wide 2");
        fault(1, "ring ^`wide 2");
        fault(1, "ring wide^{");
    }

    private static void wholesHaveOneToTwoDigits() {
        good("ring wide 02 high 2 marks 06;town p ab,ba;seen p 1 0 0 a;seen p 01 00 01 a;seen p 20 1 1 a");
        fault(4, "ring wide ^00");
        fault(4, "ring wide ^99");
        fault(1, "ring wide ^002");
        fault(1, "ring wide ^100");
        fault(1, TOWN + ";seen p 1 ^000");
        fault(1, "ring wide ^/");
        fault(1, "ring wide ^:");
        fault(1, "ring wide ^-2");
        fault(1, "ring wide ^+2");
        fault(1, "ring wide 2^.0");
    }

    private static void singleOnes() {
        fault(1, RING + ";^;town p ab,ba");
        fault(1, TOWN + ";^;");
        fault(1, RING + ";town p ab,^,ba");
        fault(1, TOWN + "^,");
        fault(1, "^;");
        fault(1, "^,");
        fault(1, "ring^;");
        fault(1, "ring wide^,2");
        // where ; or , is due, nothing else stands for it
        fault(1, RING + " ^2 town p ab,ba");
        fault(1, RING + "^!town p ab,ba");
        fault(1, RING + "^,town p ab,ba");
        fault(1, RING + " ^town p ab,ba");
        fault(1, RING + ";town p ab ^2 ba");
        fault(1, RING + ";town p ab^!ba");
        fault(1, RING + ";town p ab ^ba");
    }

    private static void theEmptyText() {
        fault(1, "^");
    }

    private static void blanksAlone() {
        fault(1, " ^");
        fault(1, behind("", 20) + "^");
        fault(1, behind("", 900) + "^");
    }

    /** Each TOKEN with what is due if the text ends behind it: a number of FAULT, or 0. */
    private static void aTextThatEndsTooEarly() {
        String tokens = "ring1 wide1 2=1 high1 2=1 marks1 2=6 ;1 guess1 fold1 1=6 ;1 town1 p1 ab6 ,1 ba0 ;1 "
            + "town1 q1 aa6 ,1 bb0 ;1 copies1 p1 q1 by1 blot1 a1 1=1 0=0 ;1 copies1 q1 q1 by1 unknown0 ;1 "
            + "guess1 true0 ;1 guess1 shift1 1=1 5=0 ;1 guess1 swap1 a1 b0 ;1 guess1 stretch1 5=0 ;1 "
            + "seen1 q1 20=1 1=1 0=1 b0";
        StringBuilder text = new StringBuilder();
        for (String token : tokens.split(" ")) {
            int number = token.charAt(token.length() - 1) - '0';
            String sign = token.substring(0, token.length() - 1);
            text.append(sign.endsWith("=") ? sign.substring(0, sign.length() - 1) : sign);
            if (number == 0) {
                good(text.toString());
                good(text + "  ");
            } else {
                fault(number, text + "^");
                fault(number, text + "  ^");
            }
            text.append(' ');
        }
    }

    private static String ring(int wide, int high, int marks) {
        StringBuilder text = new StringBuilder("ring wide " + wide + " high " + high + " marks " + marks + ";town p ");
        for (int row = 0; row < high; row++) {
            text.append(row == 0 ? "" : ",").append("abcdef".charAt(marks - 1)).append("a".repeat(wide - 1));
        }
        return text.toString();
    }

    private static void theRingsWholes() {
        int[] bounds = {2, 6};
        for (int wide : bounds) {
            for (int high : bounds) {
                for (int marks : bounds) {
                    NineMaps x = good(ring(wide, high, marks));
                    CHECK.due("wide", x.size(0), wide);
                    CHECK.due("high", x.size(1), high);
                    CHECK.due("marks", x.size(2), marks);
                    CHECK.due("the last place", x.cell(0, 10 * (wide - 1) + high - 1), 0);
                    CHECK.due("the last mark", x.cell(0, high - 1), marks - 1);
                }
            }
        }
        for (String beyond : new String[] {"0", "1", "7", "26", "99"}) {
            fault(4, "ring wide ^" + beyond + " high 2 marks 2;town p ab,ba");
            fault(4, "ring wide 2 high ^" + beyond + " marks 2;town p ab,ba");
            fault(4, "ring wide 2 high 2 marks ^" + beyond + ";town p ab,ba");
        }
    }

    private static void theRingStandsAheadOfAllOthers() {
        fault(6, "^town p ab,ba;" + RING);
        fault(6, "^copies p p by true;" + TOWN);
        fault(6, "^guess true;" + TOWN);
        fault(6, "^seen p 1 1 1 a;" + TOWN);
        fault(6, "  ^town");
        fault(6, "^guess unknown");
        fault(3, RING + ";^ring wide 2 high 2 marks 2");
        fault(3, TOWN + "; ^ring");
        fault(1, "^wide 2");
    }

    private static void asManyRowsAsHigh() {
        String six = "ring wide 2 high 6 marks 2;town p ab,ab,ab,ab,ab";
        good(six + ",ba");
        fault(6, six + "^");
        fault(6, six + "  ^");
        fault(6, six + "^;town q ab");
        fault(6, six + "  ^;");
        fault(6, RING + ";town p ab^;");
        fault(6, RING + ";town p ab^");
        fault(1, six + ",ba^,ab");
        fault(1, TOWN + "^,ab");
        fault(1, RING + ";town p ab ^town");
        fault(1, RING + ";town p^;");
        fault(1, RING + ";town p ab,^;");
    }

    private static void rowsOfAsManyLettersAsWide() {
        String six = "ring wide 6 high 2 marks 2;town p ";
        good(six + "ababab,bababa");
        fault(7, six + "^ababa");
        fault(7, six + "^abababa");
        fault(7, six + "ababab,^ababa");
        fault(7, six + "ababab,^abababab");
        fault(1, six + "^ababababa");
        fault(7, RING + ";town p ^a");
        fault(7, RING + ";town p ^aba");
        fault(1, RING + ";town p ^2");
    }

    private static void eachLetterAMark() {
        good(RING + ";town p bb,bb");
        fault(7, RING + ";town p ^ca");
        fault(7, RING + ";town p ^ac");
        fault(7, RING + ";town p ab,^bc");
        good("ring wide 2 high 2 marks 6;town p af,fa");
        fault(7, "ring wide 2 high 2 marks 6;town p af,^fg");
        fault(7, "ring wide 2 high 2 marks 6;town p ^za");
    }

    private static String towns(int count) {
        StringBuilder text = new StringBuilder(RING);
        for (int t = 0; t < count; t++) {
            text.append(";town ").append((char) ('p' + t)).append(" ab,ba");
        }
        return text.toString();
    }

    private static void upToSixTowns() {
        for (int count = 1; count <= 6; count++) {
            CHECK.due("size(3)", good(towns(count)).size(3), count);
        }
        fault(5, towns(6) + ";^town v ab,ba");
        fault(5, towns(6) + ";^town p ab,ba");
        fault(5, towns(6) + ";guess true; ^town by");
    }

    private static void mayCopyItself() {
        NineMaps x = good(TOWN + ";copies p p by true");
        CHECK.due("copies", x.copies(0), 0);
        CHECK.due("loop", x.loop(0), 1);
    }

    private static void copiesOnceForEach() {
        StringBuilder six = new StringBuilder(towns(6));
        for (int t = 0; t < 6; t++) {
            six.append(";copies ").append((char) ('p' + t)).append(" p by true");
        }
        CHECK.due("all copy", good(six.toString()).size(4), 6);
        fault(3, six + ";copies ^u p by true");
        fault(3, TOWN + ";copies p p by true;copies ^p p by true");
        fault(3, TOWN + ";copies p p by true;copies ^p z by true");
        // it may be copied by more than one
        good(towns(3) + ";copies q p by true;copies r p by true;copies p q by true");
    }

    private static NineMaps by(String error) {
        return good(UNLIKE + ";copies p p by " + error);
    }

    private static void dueError(NineMaps x, int sort, int a, int b, int c) {
        int[] want = {sort, a, b, c};
        for (int what = 0; what < 4; what++) {
            CHECK.due("error " + what, x.error(0, what), want[what]);
        }
    }

    private static void blotsPlace() {
        dueError(by("blot a 0 0"), 1, 0, 0, 0);
        dueError(by("blot d 2 4"), 1, 3, 2, 4);
        fault(4, UNLIKE + ";copies p p by blot a ^3 0");
        fault(4, UNLIKE + ";copies p p by blot a 2 ^5");
        fault(4, UNLIKE + ";guess blot a ^3 0");
        fault(4, UNLIKE + ";guess blot a 0 ^5");
    }

    private static void foldsColumn() {
        dueError(by("fold 1"), 2, 1, -2, -2);
        dueError(by("fold 2"), 2, 2, -2, -2);
        fault(4, UNLIKE + ";copies p p by fold ^0");
        fault(4, UNLIKE + ";copies p p by fold ^3");
        fault(4, UNLIKE + ";guess fold ^3");
        good(TOWN + ";guess fold 1");
        fault(4, TOWN + ";guess fold ^2");
        good(ring(6, 2, 2) + ";guess fold 5");
        fault(4, ring(6, 2, 2) + ";guess fold ^6");
    }

    private static void shiftsWholes() {
        dueError(by("shift 0 0"), 3, 0, 0, -2);
        dueError(by("shift 5 5"), 3, 5, 5, -2);
        dueError(by("shift 0 5"), 3, 0, 5, -2);
        good(TOWN + ";copies p p by shift 5 5");
        fault(4, UNLIKE + ";copies p p by shift ^6 0");
        fault(4, UNLIKE + ";copies p p by shift 0 ^6");
        // also where six are wide and high
        fault(4, ring(6, 6, 2) + ";copies p p by shift ^6 0");
    }

    private static void swapsMarksAreUnlike() {
        dueError(by("swap a d"), 5, 0, 3, -2);
        dueError(by("swap d a"), 5, 3, 0, -2);
        fault(3, UNLIKE + ";copies p p by swap a ^a");
        fault(3, UNLIKE + ";copies p p by swap d ^d");
        fault(3, UNLIKE + ";guess swap d ^d");
    }

    private static void stretchesTenths() {
        dueError(by("stretch 5"), 8, 5, -2, -2);
        dueError(by("stretch 9"), 8, 9, -2, -2);
        fault(4, UNLIKE + ";copies p p by stretch ^4");
        fault(4, UNLIKE + ";copies p p by stretch ^10");
        fault(4, UNLIKE + ";guess stretch ^0");
    }

    private static void marksOfOneLetter() {
        String[] ahead = {";copies p p by blot ", ";copies p p by swap ", ";copies p p by swap a ", ";copies p p by stain ",
            ";copies p p by erase ", ";copies p p by sneeze ", ";guess stain ", ";seen p 1 0 0 "};
        for (String line : ahead) {
            String rest = line.contains("blot") ? " 0 0" : line.endsWith("swap ") ? " a" : "";
            good(UNLIKE + line + "d" + rest);
            fault(7, UNLIKE + line + "^e" + rest);
            fault(7, UNLIKE + line + "^z" + rest);
            fault(7, UNLIKE + line + "^da" + rest);
            fault(7, UNLIKE + line + "^by" + rest);
            fault(1, UNLIKE + line + "^1" + rest);
            fault(1, UNLIKE + line + "^" + (rest.isEmpty() ? "" : ";"));
        }
        dueError(by("stain d"), 6, 3, -2, -2);
        dueError(by("erase a"), 7, 0, -2, -2);
        dueError(by("sneeze d"), 9, 3, -2, -2);
        dueError(by("true"), 0, -2, -2, -2);
        dueError(by("turn"), 4, -2, -2, -2);
        dueError(by("unknown"), 10, -2, -2, -2);
    }

    private static String unknowns(int count) {
        StringBuilder text = new StringBuilder(towns(6));
        for (int t = 0; t < count; t++) {
            text.append(";copies ").append((char) ('p' + t)).append(" p by unknown");
        }
        return text.toString();
    }

    private static void upToFourUnknown() {
        good(unknowns(4));
        good(unknowns(4) + ";copies t p by true;copies u p by turn");
        fault(5, unknowns(4) + ";copies t p by ^unknown");
        fault(5, unknowns(4) + ";copies t p by true;copies u p by ^unknown");
    }

    private static void noneIsGuessedOfUnknownSneeze() {
        String[] guessed = {"true", "blot a 1 1", "fold 1", "shift 1 1", "turn", "swap a b", "stain a", "erase a", "stretch 5"};
        for (String error : guessed) {
            CHECK.due("guesses", good(TOWN + ";guess " + error).size(5), 1);
        }
        fault(1, TOWN + ";guess ^unknown");
        fault(1, TOWN + ";guess ^sneeze");
        fault(1, TOWN + ";guess ^sneeze a");
        fault(1, TOWN + ";guess ^p");
    }

    private static void upToFiveGuesses() {
        String guesses = TOWN;
        for (int count = 1; count <= 5; count++) {
            guesses += ";guess true";
            CHECK.due("guesses", good(guesses).size(5), count);
        }
        fault(5, guesses + ";^guess true");
        fault(5, guesses + "; ^guess odd");
    }

    private static void seenBehindOneToTwenty() {
        good(TOWN + ";seen p 1 0 0 a");
        good(TOWN + ";seen p 20 0 0 a");
        fault(4, TOWN + ";seen p ^0 0 0 a");
        fault(4, TOWN + ";seen p ^21 0 0 a");
        fault(4, TOWN + ";seen p ^99 0 0 a");
    }

    private static void seenColumnAndRow() {
        good(UNLIKE + ";seen p 1 2 4 a;seen p 1 0 0 a");
        fault(4, UNLIKE + ";seen p 1 ^3 0 a");
        fault(4, UNLIKE + ";seen p 1 2 ^5 a");
        fault(4, UNLIKE + ";seen p 1 ^10 0 a");
    }

    private static void upToEightSeen() {
        String seen = TOWN;
        for (int count = 1; count <= 8; count++) {
            seen += ";seen p 1 0 0 a";
            CHECK.due("seen", good(seen).size(6), count);
        }
        fault(5, seen + ";^seen p 1 0 0 a");
        fault(5, seen + "; ^seen");
    }

    private static void namesAreWordsButSix() {
        for (String word : new String[] {"ring", "town", "copies", "guess", "seen", "by"}) {
            fault(1, RING + ";town ^" + word + " ab,ba");
            fault(1, TOWN + ";copies ^" + word + " p by true");
            fault(1, TOWN + ";copies p ^" + word + " by true");
            fault(1, TOWN + ";seen ^" + word + " 1 0 0 a");
        }
        for (String word : new String[] {"wide", "high", "marks", "true", "unknown", "a", "bb", "rings", "rin", "b"}) {
            good(RING + ";town " + word + " ab,ba;copies " + word + " " + word + " by true;seen " + word + " 1 0 0 a");
        }
    }

    private static void namesAreToldOnceAheadOfTheirUse() {
        fault(3, TOWN + ";town ^p ab,ba");
        fault(3, towns(5) + ";town ^t ab,ba");
        fault(3, RING + ";town abcdefgh ab,ba;town ^abcdefgh ab,ba");
        fault(2, RING + ";copies ^p p by true;town p ab,ba");
        fault(2, TOWN + ";copies ^q p by true;town q ab,ba");
        fault(2, TOWN + ";copies p ^q by true;town q ab,ba");
        fault(2, TOWN + ";seen ^q 1 0 0 a;town q ab,ba");
        fault(2, TOWN + ";copies ^pp p by true");
        fault(2, RING + ";town pp ab,ba;copies ^p pp by true");
    }

    private static void columnsFromTheLeftRowsFromAbove() {
        String text = "ring wide 3 high 2 marks 3;town p aac,baa";
        NineMaps x = good(text + ";copies p p by true;seen p 1 2 0 c;seen p 1 0 1 b");
        CHECK.due("the right one above", x.cell(0, 20), 2);
        CHECK.due("the left one below", x.cell(0, 1), 1);
        CHECK.due("judge", x.judge(), -2);
        x = good(text + ";copies p p by blot b 2 0");
        CHECK.dueText("blotted", Check.map(x, 0, 1), "aab,baa");
    }

    private static void theFirstFromTheLeft() {
        fault(4, "ring wide ^7 high 9 marks 9");
        fault(4, "ring wide 2 high ^1 marks 2 !");
        fault(7, RING + ";town p ^abc,ab!");
        fault(2, TOWN + ";copies ^q q by odd");
        fault(3, TOWN + ";copies p p by swap b ^b;copies p");
        fault(6, RING + ";town p ab^;town p ab");
        fault(1, "^!;ring wide 9");
        fault(5, unknowns(4) + ";copies t p by ^unknown;town v ab,ba");
        fault(4, UNLIKE + ";copies p p by blot d ^9 9");
        fault(7, UNLIKE + ";copies p p by blot ^e 9 9");
        fault(7, UNLIKE + ";copies p p by swap ^e e");
        fault(7, UNLIKE + ";copies p p by swap a ^e");
    }

    private static void ofOnePlaceTheLeastNumber() {
        // 1 FORM ahead of 6 LACKS
        fault(1, "^");
        fault(1, RING + ";^");
        fault(1, RING + ";guess true;^");
        fault(1, RING + ";town p^;");
        // 1 ahead of 5 MANY
        fault(1, unknowns(4) + ";guess ^unknown");
        // 1 ahead of 4, of 7: what begins no TOKEN is out of no bounds, and has no letter that is none such
        fault(1, "ring wide ^700");
        fault(1, RING + ";town p ^abababababa");
        fault(1, TOWN + ";guess stain ^aaaaaaaaa");
        // 1 ahead of 2
        fault(1, TOWN + ";copies ^by");
    }
}
