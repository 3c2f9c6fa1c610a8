/** The text of a RING: each FAULT with its place, and texts that have none. */
public final class FaultTest {
    private static final Check CHECK = new Check();
    private static final String RING = "ring wide 2 high 2 marks 2";
    private static final String TOWN = RING + ";town p ab,ba";
    private static final String TWO = TOWN + ";town q aa,bb";

    public static void main(String[] args) {
        form();
        formOfErrors();
        untoldAndToldAgain();
        bounds();
        many();
        lacks();
        letters();
        texts();
        CHECK.end();
    }

    private static void fault(int number, String marked) {
        CHECK.fault(number, marked);
    }

    private static void good(String text, int towns) {
        CHECK.good(text, towns);
    }

    private static void form() {
        fault(1, "^");
        fault(1, "   ^");
        fault(1, "^;");
        fault(1, "^;" + TOWN);
        fault(1, "^3");
        fault(1, "^rings wide 2");
        fault(1, "^by");
        fault(1, "^bing wide 2");
        fault(1, "^rinf wide 2");
        fault(1, "^rin wide 2");
        fault(1, "^wide 2");
        fault(1, "ring^");
        fault(1, "ring  ^");
        fault(1, "ring ^high 2");
        fault(1, "ring wide ^two");
        fault(1, "ring wide^");
        fault(1, "ring wide 2 ^wide 2");
        fault(1, "ring wide 2 high 2 ^;");
        fault(1, "ring wide 2 high 2 marks^");
        fault(1, "ring wide 2 high 2 marks 2 ^2");
        fault(1, RING + "^,");
        fault(1, RING + ";^");
        fault(1, RING + "; ^");
        fault(1, RING + ";^;town p ab,ba");
        fault(1, RING + ";^tower p");
        fault(1, TOWN + ";^");
        fault(1, TOWN + " ^town");
        fault(1, RING + ";town^");
        fault(1, RING + ";town ^2");
        fault(1, RING + ";town p^");
        fault(1, RING + ";town p^;");
        fault(1, RING + ";town p ^,ab");
        fault(1, RING + ";town p ^12,ab");
        fault(1, RING + ";town p ab ^ba");
        fault(1, RING + ";town p ab ^3");
        fault(1, RING + ";town p ab,^");
        fault(1, RING + ";town p ab,^,");
        fault(1, RING + ";town p ab,^;");
        fault(1, RING + ";town p ab,ba^,ab");
        fault(1, RING + ";town p ab,ba^,");
        String[] reserved = {"ring", "town", "copies", "guess", "seen", "by"};
        for (String word : reserved) {
            fault(1, RING + ";town ^" + word + " ab,ba");
            fault(1, TOWN + ";copies ^" + word);
            fault(1, TOWN + ";copies p ^" + word);
            fault(1, TOWN + ";seen ^" + word);
        }
        // bytes that begin no TOKEN; words and wholes that are too long are none at their first byte
        fault(1, RING + ";^Town p ab,ba");
        fault(1, RING + "^.");
        fault(1, "ring wide ^-2");
        fault(1, "ring^\twide 2");
        fault(1, "ring^\nwide 2");
        fault(1, "ring^\u0000");
        fault(1, "ring ^\u00e9");
        fault(1, "ring ^\u00ff");
        fault(1, "ring ^`");
        fault(1, "ring ^{");
        fault(1, "ring wide ^/");
        fault(1, "ring wide ^:");
        fault(1, RING + ";town ^abcdefghi ab,ba");
        fault(1, RING + ";town p ^aaaaaaaaa");
        fault(1, "ring wide ^002");
        fault(1, "ring wide ^123");
        fault(1, "^ringwide 2");
    }

    private static void formOfErrors() {
        fault(1, TOWN + ";copies^");
        fault(1, TOWN + ";copies ^1");
        fault(1, TOWN + ";copies p^");
        fault(1, TOWN + ";copies p ^;");
        fault(1, TOWN + ";copies p p^");
        fault(1, TOWN + ";copies p p ^true");
        fault(1, TOWN + ";copies p p by^");
        fault(1, TOWN + ";copies p p by ^odd");
        fault(1, TOWN + ";copies p p by ^;");
        fault(1, TOWN + ";copies p p by true ^true");
        fault(1, TOWN + ";copies p p by true^,");
        fault(1, TOWN + ";copies p p by turn ^1");
        fault(1, TOWN + ";copies p p by blot ^1");
        fault(1, TOWN + ";copies p p by blot a ^b");
        fault(1, TOWN + ";copies p p by blot a 1^");
        fault(1, TOWN + ";copies p p by blot a 1 1 ^1");
        fault(1, TOWN + ";copies p p by fold ^a");
        fault(1, TOWN + ";copies p p by shift 1 ^;");
        fault(1, TOWN + ";copies p p by shift 1 1 ^1");
        fault(1, TOWN + ";copies p p by swap a^");
        fault(1, TOWN + ";copies p p by swap a ^1");
        fault(1, TOWN + ";copies p p by stain ^;");
        fault(1, TOWN + ";copies p p by stain a ^b");
        fault(1, TOWN + ";copies p p by erase ^2");
        fault(1, TOWN + ";copies p p by stretch ^a");
        fault(1, TOWN + ";copies p p by sneeze^");
        fault(1, TOWN + ";copies p p by unknown ^a");
        fault(1, TOWN + ";guess^");
        fault(1, TOWN + ";guess ^by");
        fault(1, TOWN + ";guess ^1");
        fault(1, TOWN + ";guess ^sneeze a");
        fault(1, TOWN + ";guess ^unknown");
        fault(1, TOWN + ";guess true ^turn");
        fault(1, TOWN + ";seen^");
        fault(1, TOWN + ";seen ^1");
        fault(1, TOWN + ";seen p ^a");
        fault(1, TOWN + ";seen p 1 ^a");
        fault(1, TOWN + ";seen p 1 1 ^a");
        fault(1, TOWN + ";seen p 1 1 1 ^1");
        fault(1, TOWN + ";seen p 1 1 1^");
        fault(1, TOWN + ";seen p 1 1 1 a ^a");
        // four are unknown: it may not be guessed all the same
        fault(1, unknowns(4) + ";guess ^unknown");
    }

    private static void untoldAndToldAgain() {
        fault(2, RING + ";copies ^p");
        fault(2, TOWN + ";copies ^q");
        fault(2, TOWN + ";copies p ^q");
        fault(2, TOWN + ";copies ^pp p by true");
        fault(2, RING + ";town ab ab,ba;copies ^ba ab by true");
        fault(2, TOWN + ";seen ^q");
        fault(2, TOWN + ";seen ^wide 1");
        fault(2, TOWN + ";copies p ^q by true;town q ab,ba");
        fault(3, TOWN + ";town ^p");
        fault(3, TOWN + ";town ^p ab");
        fault(3, TWO + ";town ^q ab,ba");
        fault(3, TOWN + ";copies p p by true;copies ^p");
        fault(3, TWO + ";copies q p by true;copies p q by true;copies ^q q by turn");
        fault(3, TOWN + ";copies p p by swap a ^a");
        fault(3, TOWN + ";copies p p by swap b ^b");
        fault(3, TOWN + ";guess swap b ^b");
        fault(3, TOWN + ";^ring");
        fault(3, RING + ";^ring wide 2");
        // all copy already: each is told once, the line itself has room
        StringBuilder six = new StringBuilder(towns(6));
        for (int i = 0; i < 6; i++) {
            six.append(";copies ").append((char) ('p' + i)).append(" p by true");
        }
        fault(3, six + ";copies ^u p by true");
    }

    private static void bounds() {
        String[] outer = {"0", "1", "7", "10", "99"};
        for (String whole : outer) {
            fault(4, "ring wide ^" + whole);
            fault(4, "ring wide 2 high ^" + whole);
            fault(4, "ring wide 2 high 2 marks ^" + whole);
        }
        String three = "ring wide 3 high 2 marks 2;town p abb,baa";
        fault(4, three + ";copies p p by blot a ^3");
        fault(4, three + ";copies p p by blot a 2 ^2");
        fault(4, three + ";copies p p by fold ^0");
        fault(4, three + ";copies p p by fold ^3");
        fault(4, three + ";copies p p by shift ^6");
        fault(4, three + ";copies p p by shift 5 ^6");
        fault(4, three + ";copies p p by stretch ^4");
        fault(4, three + ";copies p p by stretch ^10");
        fault(4, three + ";seen p ^0");
        fault(4, three + ";seen p ^21");
        fault(4, three + ";seen p 20 ^3");
        fault(4, three + ";seen p 20 2 ^2");
        fault(4, three + ";guess fold ^3");
    }

    private static String towns(int count) {
        StringBuilder text = new StringBuilder(RING);
        for (int i = 0; i < count; i++) {
            text.append(";town ").append((char) ('p' + i)).append(" ab,ba");
        }
        return text.toString();
    }

    private static String unknowns(int count) {
        StringBuilder text = new StringBuilder(towns(6));
        for (int i = 0; i < count; i++) {
            text.append(";copies ").append((char) ('p' + i)).append(" p by unknown");
        }
        return text.toString();
    }

    private static void many() {
        good(towns(6), 6);
        fault(5, towns(6) + ";^town");
        fault(5, towns(6) + ";^town p");
        good(unknowns(4), 6);
        fault(5, unknowns(4) + ";copies t p by ^unknown");
        String guesses = ";guess true;guess true;guess turn;guess fold 1;guess stretch 9";
        good(TOWN + guesses, 1);
        fault(5, TOWN + guesses + ";^guess");
        fault(5, TOWN + guesses + ";^guess unknown");
        String seen = ";seen p 1 0 0 a;seen p 1 0 0 a;seen p 1 0 0 a;seen p 20 1 1 b";
        good(TOWN + seen + seen, 1);
        fault(5, TOWN + seen + seen + ";^seen");
    }

    private static void lacks() {
        fault(6, "^town p ab");
        fault(6, "^copies");
        fault(6, "^guess unknown");
        fault(6, "  ^seen p");
        fault(6, RING + "^");
        fault(6, RING + "   ^");
        fault(6, RING + ";guess true^");
        fault(6, RING + ";town p ab^");
        fault(6, RING + ";town p ab ^");
        fault(6, RING + ";town p ab^;town q ab,ba");
        fault(6, "ring wide 2 high 3 marks 2;town p ab,ba ^;");
    }

    private static void letters() {
        fault(7, RING + ";town p ^a");
        fault(7, RING + ";town p ^abc");
        fault(7, RING + ";town p ^ac");
        fault(7, RING + ";town p ^za");
        fault(7, RING + ";town p ab,^b");
        fault(7, RING + ";town p ab,^bc");
        fault(7, RING + ";town p ^by");
        fault(7, TOWN + ";copies p p by blot ^c");
        fault(7, TOWN + ";copies p p by blot ^ab");
        fault(7, TOWN + ";copies p p by swap ^c a");
        fault(7, TOWN + ";copies p p by swap a ^c");
        fault(7, TOWN + ";copies p p by swap a ^aa");
        fault(7, TOWN + ";copies p p by stain ^z");
        fault(7, TOWN + ";copies p p by erase ^by");
        fault(7, TOWN + ";copies p p by sneeze ^c");
        fault(7, TOWN + ";seen p 1 1 1 ^c");
        fault(7, TOWN + ";guess stain ^c");
    }

    private static void texts() {
        good(TOWN, 1);
        good("  " + TOWN + "   ", 1);
        good("ring   wide 02high 2marks 2 ;town p ab , ba", 1);
        good("ring wide2high2marks2;town p ab,ba;seen p 1 1 1a", 1);
        good(RING + ";town true ab,ba;town a ab,ba;town wide ab,ba;copies a true by true;copies true wide by turn", 3);
        good(RING + ";guess true;town abcdefgh ab,ba;seen abcdefgh 20 1 1 b", 1);
        good(TOWN + ";copies p p by true;town q aa,aa;guess turn;copies q p by unknown", 2);
        good("ring wide 6 high 6 marks 6;town p abcdef,abcdef,abcdef,abcdef,abcdef,ffffff;copies p p by fold 5", 1);
        good("ring wide 3 high 2 marks 2;town p abb,baa;copies p p by shift 5 0", 1);
    }
}
