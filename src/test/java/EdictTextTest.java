/** Promises 8 and 9: edict, fault. */
public final class EdictTextTest {
    private static final int NONE = PriceEdict.NONE;

    public static void main(String[] args) {
        clausesAndSemicolons();
        capNumbers();
        lineNumbers();
        carriageNumbers();
        creditNumbers();
        freeNumbers();
        digits();
        tooManyDigits();
        words();
        wordsGoOn();
        blanks();
        otherSigns();
        whatIsNotTold();
        laterClauses();
        laterFreeTowns();
        outOfBounds();
        noWord();
        thingsInWrongPlaces();
        moreMustCome();
        firstOfSeveral();
        longestTexts();
        mostClauses();
        emptyText();
        tapeIsUsedUp();
        wrongTextsLeaveNothing();
        numbersOfEdicts();
        twentyEdicts();
        wrongAheadOfTooMany();
        faultOfTheLatest();
        Check.end();
    }

    private static void dueRight(String text) {
        PriceEdict x = new PriceEdict();
        Check.due("edict of '" + text + "'", Check.edict(x, text), 0);
        Check.due("fault of '" + text + "'", x.fault(), NONE);
    }

    private static void dueWrong(String text, int at) {
        PriceEdict x = new PriceEdict();
        Check.dueFault(x, text, at);
        Check.due("no EDICT by '" + text + "'", x.count(4), 0);
    }

    /** One TOWN of so many miles, where a text was told and heard. */
    private static PriceEdict told(int miles, String text) {
        PriceEdict x = new PriceEdict();
        x.town(miles);
        Check.due("edict of '" + text + "'", Check.edict(x, text), 0);
        return x;
    }

    private static int capOf(String text, int thing) {
        return told(0, text).cap(0, thing, false, 0);
    }

    private static void clausesAndSemicolons() {
        Check.sentence("THE EDICT: a text: CLAUSE { ; CLAUSE }. CLAUSE: cap NUMBER NUMBER");
        dueRight("free 1");
        dueRight("free 1;free 2");
        dueRight("cap 0 1;line 1 2;carriage 3;credit 4;free 5");
        dueWrong(";", 0);
        dueWrong(";free 1", 0);
        dueWrong("free 1;", 7);
        dueWrong("free 1;;free 2", 7);
        dueWrong("free 1 free 2", 7);
        dueWrong("free 1,free 2", 6);
    }

    private static void capNumbers() {
        Check.sentence("cap NUMBER NUMBER (of a THING, 0 to 5; 1 to 9999)");
        Check.due("THING 0", capOf("cap 0 7", 0), 7);
        Check.due("THING 5", capOf("cap 5 7", 5), 7);
        dueWrong("cap 6 7", 4);
        Check.due("cap 1", capOf("cap 3 1", 3), 1);
        Check.due("cap 9999", capOf("cap 3 9999", 3), 9999);
        dueWrong("cap 3 0", 6);
        dueWrong("cap 3 10000", 6);
    }

    private static void lineNumbers() {
        Check.sentence("line NUMBER NUMBER (of a THING; a LINE, 0 to 29");
        dueRight("line 0 0");
        dueRight("line 5 29");
        dueWrong("line 6 0", 5);
        dueWrong("line 5 30", 7);
        PriceEdict x = told(0, "line 0 0;line 5 29");
        x.stone(0, 0, 0, 0, 3);
        x.stone(29, 0, 0, 0, 4);
        Check.due("LINE 0", x.cap(0, 0, false, 0), 3);
        Check.due("LINE 29", x.cap(0, 5, false, 0), 4);
    }

    private static void carriageNumbers() {
        Check.sentence("carriage NUMBER (0 to 99");
        Check.due("carriage 0", told(10, "cap 0 5;carriage 0").cap(0, 0, false, 1), 5);
        Check.due("carriage 99", told(10, "cap 0 5;carriage 99").cap(0, 0, false, 1), 104);
        dueWrong("carriage 100", 9);
    }

    private static void creditNumbers() {
        Check.sentence("credit NUMBER (0 to 100");
        Check.due("credit 0", told(0, "cap 0 50;credit 0").cap(0, 0, true, 0), 50);
        Check.due("credit 100", told(0, "cap 0 50;credit 100").cap(0, 0, true, 0), 100);
        dueWrong("credit 101", 7);
    }

    private static void freeNumbers() {
        Check.sentence("free NUMBER (a TOWN, 0 to 7, which has no caps)");
        PriceEdict x = new PriceEdict();
        for (int i = 0; i < 8; i++) {
            x.town(0);
        }
        for (int free = 0; free < 8; free++) {
            Check.due("free " + free, Check.edict(x, "cap 0 5;free " + free), free);
            for (int town = 0; town < 8; town++) {
                Check.due("cap in " + town, x.cap(town, 0, false, 0), town == free ? NONE : 5);
            }
        }
        dueWrong("free 8", 5);
        Check.sentence("free NUMBER");
        dueRight("free 7");
    }

    private static void digits() {
        Check.sentence("A NUMBER: 1 to 4 digits.");
        Check.due("1 digit", capOf("cap 1 8", 1), 8);
        Check.due("2 digits", capOf("cap 01 78", 1), 78);
        Check.due("3 digits", capOf("cap 001 678", 1), 678);
        Check.due("4 digits", capOf("cap 0001 5678", 1), 5678);
        Check.due("4 digits with zeros ahead", capOf("cap 0001 0008", 1), 8);
        Check.due("all digits", capOf("cap 1 1234;cap 2 5678;cap 3 9012", 3), 9012);
        dueRight("carriage 0099");
        dueRight("credit 0100");
        dueRight("free 0007");
        dueRight("line 0005 0029");
        dueRight("carriage 0000");
    }

    private static void tooManyDigits() {
        Check.sentence("(a NUMBER of more digits, or out of its bounds; a word that is none)");
        dueWrong("cap 00001 8", 4);
        dueWrong("cap 1 00008", 6);
        dueWrong("line 00001 8", 5);
        dueWrong("line 1 00008", 7);
        dueWrong("carriage 00001", 9);
        dueWrong("credit 00001", 7);
        dueWrong("free 00001", 5);
        dueWrong("free 00000", 5);
        // Numbers that would be 1 again in 32 and in 64 bits.
        dueWrong("cap 0 4294967297", 6);
        dueWrong("cap 0 18446744073709551617", 6);
        dueWrong("free " + "0".repeat(395), 5);
    }

    private static void words() {
        Check.sentence("a word that is none");
        for (String word : new String[] {"cap", "line", "carriage", "credit", "free"}) {
            dueWrong(word + "s 0 1", 0);
            dueWrong("a" + word + " 0 1", 0);
            dueWrong(word.substring(1) + " 0 1", 0);
            dueWrong(word.substring(0, word.length() - 1) + " 0 1", 0);
            for (int i = 0; i < word.length(); i++) {
                StringBuilder other = new StringBuilder(word);
                other.setCharAt(i, word.charAt(i) == 'z' ? 'a' : (char) (word.charAt(i) + 1));
                dueWrong(other + " 0 1", 0);
                other.setCharAt(i, Character.toUpperCase(word.charAt(i)));
                dueWrong(other + " 0 1", 0);
            }
        }
        dueWrong("a", 0);
        dueWrong("z", 0);
        dueWrong("zzz 1", 0);
    }

    private static void wordsGoOn() {
        Check.sentence("Words are as long as a to z go on");
        Check.due("a digit ends it", capOf("cap0 1", 0), 1);
        Check.due("and 9 does", told(10, "cap0 1;carriage99").cap(0, 0, false, 1), 100);
        dueRight("free7");
        dueWrong("capa 0 1", 0);
        dueWrong("capz 0 1", 0);
        dueWrong("capfree 0 1", 0);
        dueWrong("cap`0 1", 3);
        dueWrong("cap{0 1", 3);
        dueWrong("capA0 1", 3);
        dueWrong("c ap 0 1", 0);
        dueWrong("free 1;fre e 2", 7);
    }

    private static void blanks() {
        Check.sentence("between all there may be blanks (32), also ahead and behind");
        Check.due("none", capOf("cap0 1;cap1 2", 1), 2);
        Check.due("one", capOf(" cap 0 1 ; cap 1 2 ", 1), 2);
        Check.due("many", capOf("     cap     0     1     ;     cap     1     2     ", 1), 2);
        Check.due("two NUMBERS are two by a blank", capOf("cap 1 2", 1), 2);
        dueWrong("cap 12", 4);
        dueWrong("cap 0 1 2", 8);
        Check.due("a blank ends no NUMBER but its own", capOf("cap 1 23", 1), 23);
        dueWrong("free 1 1", 7);
    }

    private static void otherSigns() {
        Check.sentence("between all there may be blanks (32)");
        for (int sign = 0; sign < 256; sign++) {
            boolean known = sign == ' ' || sign == ';' || sign >= '0' && sign <= '9' || sign >= 'a' && sign <= 'z';
            if (!known) {
                dueWrong((char) sign + "free 1", 0);
                dueWrong("free" + (char) sign + "1", 4);
                dueWrong("free 1" + (char) sign, 6);
                dueWrong("free 1;" + (char) sign + "free 2", 7);
            }
        }
        dueWrong("free -1", 5);
        dueWrong("free +1", 5);
        dueWrong("cap 0 1.5", 7);
    }

    private static void whatIsNotTold() {
        Check.sentence("What it does not tell: no cap of a THING, carriage 0, credit 0, no TOWN free.");
        PriceEdict x = new PriceEdict();
        x.town(1000);
        x.town(0);
        Check.edict(x, "cap 3 50");
        for (int thing = 0; thing < 6; thing++) {
            Check.due("cap of " + thing, x.cap(0, thing, false, 100), thing == 3 ? 50 : NONE);
            Check.due("on credit", x.cap(0, thing, true, 100), thing == 3 ? 50 : NONE);
        }
        Check.due("the other TOWN", x.cap(1, 3, true, 0), 50);
        Check.edict(x, "cap 1 2;line 2 3;carriage 9;credit 99;free 0;free 1");
        Check.edict(x, "cap 3 60");
        for (int thing = 0; thing < 6; thing++) {
            Check.due("nothing of the one before: " + thing, x.cap(0, thing, true, 100), thing == 3 ? 60 : NONE);
        }
        Check.due("nor in the other TOWN", x.cap(1, 3, true, 0), 60);
    }

    private static void laterClauses() {
        Check.sentence("Of two CLAUSES alike (cap and line of a THING are) the later one counts.");
        PriceEdict x = new PriceEdict();
        x.town(10);
        x.stone(7, 0, 0, 4, 2);
        Check.edict(x, "cap 0 5; line 0 7; line 1 7; cap 1 6; cap 2 3; cap 2 4; line 3 8; line 3 7");
        Check.due("line behind cap", x.cap(0, 0, false, 1), 42);
        Check.due("cap behind line", x.cap(0, 1, false, 1), 6);
        Check.due("cap behind cap", x.cap(0, 2, false, 1), 4);
        Check.due("line behind line", x.cap(0, 3, false, 1), 42);
        Check.due("no cap", x.cap(0, 4, false, 1), NONE);
        Check.edict(x, "cap 0 10;carriage 5;carriage 3;credit 90;credit 100");
        Check.due("later carriage", x.cap(0, 0, false, 1), 13);
        Check.due("later credit", x.cap(0, 0, true, 1), 26);
        Check.edict(x, "cap 0 9;line 0 7;cap 0 8;carriage 5;credit 50;credit 0;carriage 0");
        Check.due("the last of three", x.cap(0, 0, true, 1), 8);
    }

    private static void laterFreeTowns() {
        Check.sentence("Of two CLAUSES alike (cap and line of a THING are) the later one counts.");
        PriceEdict x = new PriceEdict();
        x.town(0);
        x.town(0);
        x.town(0);
        Check.edict(x, "cap 0 5;free 1;free 2;free 1");
        Check.due("not told", x.cap(0, 0, false, 0), 5);
        Check.due("told twice", x.cap(1, 0, false, 0), NONE);
        Check.due("told once: of another TOWN", x.cap(2, 0, false, 0), NONE);
    }

    private static void outOfBounds() {
        Check.sentence("The first wrong byte: the begin of the first thing that cannot stand there "
                + "(a NUMBER of more digits, or out of its bounds; a word that is none)");
        dueWrong("cap   6 1", 6);
        dueWrong("cap 9999 1", 4);
        dueWrong("cap 0   0000", 8);
        dueWrong("line 0   30", 9);
        dueWrong("line 0 9999", 7);
        dueWrong("carriage   100", 11);
        dueWrong("carriage 9999", 9);
        dueWrong("credit   101", 9);
        dueWrong("credit 9999", 7);
        dueWrong("free   8", 7);
        dueWrong("free 9999", 5);
        dueWrong("free8", 4);
    }

    private static void noWord() {
        Check.sentence("The first wrong byte: the begin of the first thing that cannot stand there");
        dueWrong("   caps 0 1", 3);
        dueWrong("free 1;freed 2", 7);
        dueWrong("free 1;   freed 2", 10);
        dueWrong("free 1;x", 7);
    }

    private static void thingsInWrongPlaces() {
        Check.sentence("The first wrong byte: the begin of the first thing that cannot stand there");
        dueWrong("0 1", 0);
        dueWrong("cap free 0", 4);
        dueWrong("cap 0 free", 6);
        dueWrong("cap 0 1 free 2", 8);
        dueWrong("cap 0 1free 2", 7);
        dueWrong("free;0", 4);
        dueWrong("cap 0;1", 5);
        dueWrong("cap ;", 4);
        dueWrong("carriage 1 2", 11);
        dueWrong("credit 1 2", 9);
        dueWrong("line 1 2 3", 9);
        dueWrong("free 1;2", 7);
        dueWrong("free free", 5);
    }

    private static void moreMustCome() {
        Check.sentence("or the text's length, if more must come");
        String[] texts = {
            " ", "cap", "cap ", "cap 0", "cap 0   ", "line", "line 3", "line 3 ", "carriage", "carriage ",
            "credit", "credit ", "free", "free   ", "free 1;", "free 1 ;  ", "cap 0 1;cap 1", "cap 0 1;cap",
        };
        for (String text : texts) {
            dueWrong(text, text.length());
        }
        dueWrong("ca", 0);
        dueWrong("free 1;fre", 7);
    }

    private static void firstOfSeveral() {
        Check.sentence("The first wrong byte");
        dueWrong("cap 6", 4);
        dueWrong("cap 6 0", 4);
        dueWrong("caps 6 0", 0);
        dueWrong("free 0;cap 0 1;free 8;free 9", 20);
        dueWrong("free 8;", 5);
    }

    private static void longestTexts() {
        Check.sentence("if it would have more than 400");
        String blanks = " ".repeat(393);
        Check.due("400 bytes, blanks ahead", capOf(blanks + "cap 0 1", 0), 1);
        Check.due("400 bytes, blanks behind", capOf("cap 0 1" + blanks, 0), 1);
        Check.due("400 bytes, blanks between", capOf("cap" + blanks + " 0 1", 0), 1);
        dueWrong(blanks + "cap 0 0", 399);
        dueWrong(blanks + "cap 0  ", 400);
        dueWrong(blanks + "free 1;", 400);
        dueWrong(blanks + "free 8 ", 398);
        dueWrong("a".repeat(400), 0);
        dueWrong(" ".repeat(400), 400);
        dueWrong(" ".repeat(399) + ";", 399);
    }

    private static void mostClauses() {
        Check.sentence("CLAUSE { ; CLAUSE }");
        // 57 CLAUSES of seven bytes with their semicolon, and what is left for the last
        String text = "cap1 9;".repeat(56) + "cap1 3";
        Check.due("its length", text.length(), 398);
        Check.due("the 57th counts", capOf(text, 1), 3);
        Check.due("66 of six bytes", capOf("free7;".repeat(65) + "cap 2 4", 2), 4);
        dueWrong("cap1 9;".repeat(57), 399);
        dueWrong("cap1 9;".repeat(57) + "x", 399);
    }

    private static void emptyText() {
        Check.sentence("or the text's length, if more must come");
        PriceEdict x = new PriceEdict();
        Check.dueIllegal("a TAPE that was never fed", x::edict);
        Check.due("its fault", x.fault(), 0);
        dueWrong("", 0);
    }

    private static void tapeIsUsedUp() {
        Check.sentence("Uses the TAPE up");
        PriceEdict x = new PriceEdict();
        Check.edict(x, "free 1");
        Check.due("by an EDICT", x.end(1), false);
        Check.dueFault(x, "wrong", 0);
        Check.due("by a wrong text", x.end(1), false);
        Check.dueIllegal("edict of nothing", x::edict);
        Check.due("its fault", x.fault(), 0);
        Check.due("the next text begins at 0", x.feed(0, 0, 0, 0, 0), 20);
    }

    private static void wrongTextsLeaveNothing() {
        Check.sentence("a call that throws changes nothing but the TAPE, where it is used up");
        PriceEdict x = new PriceEdict();
        x.town(10);
        Check.edict(x, "cap 0 5");
        Check.dueFault(x, "cap 0 9;cap 1 9;line 2 3;carriage 9;credit 99;free 0;x", 53);
        Check.due("no EDICT came", x.count(4), 1);
        Check.due("the former is in force", x.force(0, 1), 0);
        Check.due("the former cap", x.cap(0, 0, true, 1), 5);
        Check.due("the next number", Check.edict(x, "cap 3 8"), 1);
        for (int thing = 0; thing < 6; thing++) {
            Check.due("nothing of the wrong text: " + thing, x.cap(0, thing, true, 1), thing == 3 ? 8 : NONE);
        }
        x.undo();
        Check.dueFault(x, "cap 0 9;", 8);
        Check.due("undone it stays", x.force(0, 1), NONE);
        Check.due("and is not undone again", x.undo(), false);
    }

    private static void numbersOfEdicts() {
        Check.sentence("Uses the TAPE up: an EDICT: its number. IllegalArgumentException: the text is wrong");
        PriceEdict x = new PriceEdict();
        Check.dueFault(x, "cap 0", 5);
        Check.due("the first behind a wrong text", Check.edict(x, "cap 0 1"), 0);
        Check.due("the same text again", Check.edict(x, "cap 0 1"), 1);
        x.undo();
        Check.dueFault(x, "cap 0 1 1", 8);
        x.days(3);
        Check.due("behind an UNDOING, on another day", Check.edict(x, "free 0"), 2);
        Check.due("three of them", x.count(4), 3);
    }

    private static void twentyEdicts() {
        Check.sentence("EDICTS (at most 20, numbered from 0 on)");
        PriceEdict x = new PriceEdict();
        x.town(0);
        for (int i = 0; i < 20; i++) {
            Check.due("edict " + i, Check.edict(x, "cap 0 " + (i + 1)), i);
            Check.due("its cap", x.cap(0, 0, false, 0), i + 1);
        }
        Check.sentence("UnsupportedOperationException: there are 20.");
        Check.dueUnsupported("a 21st", () -> Check.edict(x, "cap 0 77;cap 1 77;free 0"));
        Check.due("its text is not wrong", x.fault(), NONE);
        Check.due("the TAPE is used up", x.end(1), false);
        Check.due("20 stay", x.count(4), 20);
        Check.due("the 20th is in force", x.force(0, 0), 19);
        Check.due("its cap stays", x.cap(0, 0, false, 0), 20);
        Check.dueUnsupported("a 21st again", () -> Check.edict(x, "cap 0 78"));
        Check.due("its cap stays still", x.cap(0, 0, false, 0), 20);
        Check.due("undo", x.undo(), true);
        Check.dueUnsupported("an undone one leaves no room", () -> Check.edict(x, "cap 0 79"));
        Check.due("none is in force", x.force(0, 0), NONE);
    }

    private static void wrongAheadOfTooMany() {
        Check.sentence("Of several exceptions the one told first is thrown");
        PriceEdict x = new PriceEdict();
        for (int i = 0; i < 20; i++) {
            Check.edict(x, "free 1");
        }
        Check.dueFault(x, "cap 0 0", 6);
        Check.due("the TAPE is used up", x.end(1), false);
        Check.dueFault(x, "", 0);
        Check.dueUnsupported("a right one", () -> Check.edict(x, "cap 0 1"));
        Check.due("the latest has no wrong byte", x.fault(), NONE);
        Check.due("20 stay", x.count(4), 20);
    }

    private static void faultOfTheLatest() {
        Check.sentence("The first wrong byte of the latest edict(); NONE without one, and ahead of any.");
        PriceEdict x = new PriceEdict();
        Check.due("ahead of any", x.fault(), NONE);
        Check.tape(x, "wrong");
        Check.due("ahead of edict()", x.fault(), NONE);
        Check.dueFault(x, "free 8", 5);
        x.undo();
        x.days(1);
        x.feed(0, 0, 0, 0, 0);
        x.end(3);
        Check.due("it stays", x.fault(), 5);
        Check.dueFault(x, "cap", 3);
        Check.edict(x, "free 1");
        Check.due("without one", x.fault(), NONE);
        Check.dueFault(x, "free", 4);
        Check.due("asked twice", x.fault(), 4);
    }
}
