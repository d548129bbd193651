/** Promises 8 and 9: edict, fault. */
public final class EdictTextTest {
    public static void main(String[] args) {
        rightTexts();
        laterClausesCount();
        textsWithTooLittle();
        wrongWords();
        wrongNumbers();
        wrongSigns();
        tapeIsUsedUp();
        faultOfTheLatest();
        twentyEdicts();
        aFailedTextLeavesNothing();
        Check.end();
    }

    private static void rightTexts() {
        String[] texts = {
            "cap 0 1", "cap 5 9999", "cap0 1", "cap 0000 0001", "  cap   0   1  ", "line 0 0", "line 5 29",
            "carriage 0", "carriage 99", "carriage99", "credit 0", "credit 100", "free 0", "free 7",
            "cap 0 1;line 1 2;carriage 3;credit 4;free 5", " cap 0 1 ; free 7 ", "free0;free1",
        };
        PriceEdict x = new PriceEdict();
        for (int i = 0; i < texts.length; i++) {
            Check.due("edict of '" + texts[i] + "'", Check.edict(x, texts[i]), i);
            Check.due("fault of '" + texts[i] + "'", x.fault(), PriceEdict.NONE);
        }
        Check.due("how many", x.count(4), texts.length);
    }

    private static void laterClausesCount() {
        PriceEdict x = new PriceEdict();
        x.town(10);
        x.town(10);
        x.town(10);
        x.stone(7, 0, 0, 4, 2);
        Check.edict(x, "cap 0 5; line 0 7; line 1 7; cap 1 6; cap 2 3; cap 2 4; line 3 8; line 3 7");
        Check.due("line behind cap", x.cap(0, 0, false, 1), 42);
        Check.due("cap behind line", x.cap(0, 1, false, 1), 6);
        Check.due("cap behind cap", x.cap(0, 2, false, 1), 4);
        Check.due("line behind line", x.cap(0, 3, false, 1), 42);
        Check.edict(x, "cap 0 10;carriage 5;carriage 3;credit 90;credit 100;free 1;free 2;free 1");
        Check.due("later carriage", x.cap(0, 0, false, 1), 13);
        Check.due("later credit", x.cap(0, 0, true, 1), 26);
        Check.due("free 1", x.cap(1, 0, false, 1), PriceEdict.NONE);
        Check.due("free 2", x.cap(2, 0, false, 1), PriceEdict.NONE);
    }

    private static void textsWithTooLittle() {
        PriceEdict x = new PriceEdict();
        String[] texts = {
            "", " ", "cap", "cap ", "cap 0", "cap 0 ", "line", "line 3", "carriage", "credit ", "free",
            "free 1;", "free 1 ; ", "cap 0 1;cap 1", "cap 0 1;cap",
        };
        for (String text : texts) {
            Check.dueFault(x, text, text.length());
        }
    }

    private static void wrongWords() {
        PriceEdict x = new PriceEdict();
        Check.dueFault(x, "caps 0 1", 0);
        Check.dueFault(x, "dap 0 1", 0);
        Check.dueFault(x, "cax 0 1", 0);
        Check.dueFault(x, "ca 0 1", 0);
        Check.dueFault(x, "Cap 0 1", 0);
        Check.dueFault(x, "capfree 0 1", 0);
        Check.dueFault(x, "lines 0 1", 0);
        Check.dueFault(x, "cbp 0 1", 0);
        Check.dueFault(x, "  fre 0", 2);
        Check.dueFault(x, "freed 0", 0);
        Check.dueFault(x, "cap 0 1;and 0", 8);
        Check.dueFault(x, "cap free 0", 4);
        Check.dueFault(x, "cap 0 free", 6);
        Check.dueFault(x, "cap 0 1 free 2", 8);
        Check.dueFault(x, "cap 0 1free 2", 7);
        Check.dueFault(x, "0 1", 0);
        Check.dueFault(x, "x", 0);
        Check.dueFault(x, "credi 1", 0);
        Check.dueFault(x, "carriages 1", 0);
    }

    private static void wrongNumbers() {
        PriceEdict x = new PriceEdict();
        Check.dueFault(x, "cap 6 1", 4);
        Check.dueFault(x, "cap  00000 1", 5);
        Check.dueFault(x, "cap 0 0", 6);
        Check.dueFault(x, "cap 0 0000", 6);
        Check.dueFault(x, "cap 0 10000", 6);
        Check.dueFault(x, "cap 0 00001", 6);
        Check.dueFault(x, "cap 0 4294967297", 6);
        Check.dueFault(x, "cap 6", 4);
        Check.dueFault(x, "line 6 0", 5);
        Check.dueFault(x, "line 0 30", 7);
        Check.dueFault(x, "carriage 100", 9);
        Check.dueFault(x, "credit 101", 7);
        Check.dueFault(x, "free 8", 5);
        Check.dueFault(x, "free 1 2", 7);
        Check.dueFault(x, "cap 0 1 2", 8);
        Check.dueFault(x, "free 0;cap 0 1;free 8;free 9", 20);
    }

    private static void wrongSigns() {
        PriceEdict x = new PriceEdict();
        Check.dueFault(x, ";", 0);
        Check.dueFault(x, ";free 0", 0);
        Check.dueFault(x, "free 0;;free 1", 7);
        Check.dueFault(x, "free;0", 4);
        Check.dueFault(x, "free 0,free 1", 6);
        Check.dueFault(x, "free -1", 5);
        Check.dueFault(x, "free\t1", 4);
        Check.dueFault(x, "free 1\n", 6);
        Check.dueFault(x, "free 1\u0000", 6);
        Check.dueFault(x, "free 1\u00a0", 6);
        Check.dueFault(x, "free 1\u00b1", 6);
        Check.dueFault(x, "fre\u00e5 1", 0);
        Check.dueFault(x, "free `1", 5);
        Check.dueFault(x, "free {1", 5);
        Check.dueFault(x, "free /1", 5);
        Check.dueFault(x, "free :1", 5);
        Check.dueFault(x, "`free 1", 0);
        Check.dueFault(x, "free{ 1", 4);
    }

    private static void tapeIsUsedUp() {
        PriceEdict x = new PriceEdict();
        Check.edict(x, "free 1");
        Check.due("used up by an EDICT", x.end(1), false);
        Check.dueFault(x, "wrong", 0);
        Check.due("used up by a wrong text", x.end(1), false);
        Check.dueIllegal("edict of nothing", x::edict);
        Check.due("its fault", x.fault(), 0);
    }

    private static void faultOfTheLatest() {
        PriceEdict x = new PriceEdict();
        Check.due("ahead of any", x.fault(), PriceEdict.NONE);
        Check.dueFault(x, "free 8", 5);
        x.undo();
        x.feed(0, 0, 0, 0, 0);
        Check.due("stays", x.fault(), 5);
        Check.edict(x, "free 1");
        Check.due("without one", x.fault(), PriceEdict.NONE);
    }

    private static void twentyEdicts() {
        PriceEdict x = new PriceEdict();
        x.town(0);
        for (int i = 0; i < 20; i++) {
            Check.due("edict " + i, Check.edict(x, "cap 0 " + (i + 1)), i);
        }
        Check.dueFault(x, "cap 0 0", 6);
        Check.dueUnsupported("edict 20", () -> Check.edict(x, "cap 0 77"));
        Check.due("its text is not wrong", x.fault(), PriceEdict.NONE);
        Check.due("the TAPE is used up", x.end(1), false);
        Check.due("20 stay", x.count(4), 20);
        Check.due("the last is in force", x.force(0, 0), 19);
        Check.due("its cap", x.cap(0, 0, false, 0), 20);
        Check.dueUnsupported("edict 20 again", () -> Check.edict(x, "cap 0 78"));
        Check.due("its cap stays", x.cap(0, 0, false, 0), 20);
        Check.due("undo", x.undo(), true);
    }

    private static void aFailedTextLeavesNothing() {
        PriceEdict x = new PriceEdict();
        x.town(10);
        Check.edict(x, "cap 0 5");
        Check.dueFault(x, "cap 0 9;cap 1 9;line 2 3;carriage 9;credit 99;free 0;x", 53);
        Check.due("no EDICT came", x.count(4), 1);
        Check.due("the former is in force", x.force(0, 1), 0);
        Check.due("the former cap", x.cap(0, 0, true, 1), 5);
        Check.due("the next number", Check.edict(x, "cap 3 8"), 1);
        Check.due("nothing of the wrong text: 0", x.cap(0, 0, false, 1), PriceEdict.NONE);
        Check.due("nothing of the wrong text: 1", x.cap(0, 1, false, 1), PriceEdict.NONE);
        Check.due("nothing of the wrong text: 2", x.cap(0, 2, false, 1), PriceEdict.NONE);
        Check.due("nothing of the wrong text: 3", x.cap(0, 3, true, 1), 8);
    }
}
