/** Promises 18 and 19: cap, judge. */
public final class CapTest {
    private static final int NONE = PriceEdict.NONE;

    public static void main(String[] args) {
        carriageForEachTenMiles();
        creditRoundedDown();
        carriageAheadOfCredit();
        greatestCap();
        noCap();
        freeTowns();
        greatestThatAgrees();
        noneAgrees();
        capOfNothing();
        lineOnTheDayAskedFor();
        byTheEdictHeard();
        capOrNone();
        lawfulOrAbove();
        withoutACap();
        judgedByTheCap();
        priceBelowNothing();
        noSuchTownOrThing();
        Check.end();
    }

    private static void dueCaps(String text, int miles, int plain, int onCredit) {
        PriceEdict x = new PriceEdict();
        x.town(miles);
        Check.edict(x, text);
        int day = miles / 10;
        Check.due("'" + text + "' at " + miles, x.cap(0, 0, false, day), plain);
        Check.due("'" + text + "' at " + miles + " on credit", x.cap(0, 0, true, day), onCredit);
    }

    private static void carriageForEachTenMiles() {
        Check.sentence("by which a cap is more for each 10 miles that a TOWN has, rounded down");
        dueCaps("cap 0 100;carriage 7", 0, 100, 100);
        dueCaps("cap 0 100;carriage 7", 9, 100, 100);
        dueCaps("cap 0 100;carriage 7", 10, 107, 107);
        dueCaps("cap 0 100;carriage 7", 19, 107, 107);
        dueCaps("cap 0 100;carriage 7", 20, 114, 114);
        dueCaps("cap 0 100;carriage 7", 1999, 1493, 1493);
        dueCaps("cap 0 100;carriage 7", 2000, 1500, 1500);
        dueCaps("cap 0 100;carriage 1", 105, 110, 110);
        dueCaps("cap 0 100;carriage 99", 15, 199, 199);
        dueCaps("cap 0 100;carriage 0", 2000, 100, 100);
    }

    private static void creditRoundedDown() {
        Check.sentence("hundredths by which a cap on credit is more, rounded down");
        dueCaps("cap 0 99;credit 1", 0, 99, 99);
        dueCaps("cap 0 100;credit 1", 0, 100, 101);
        dueCaps("cap 0 199;credit 1", 0, 199, 200);
        dueCaps("cap 0 1;credit 99", 0, 1, 1);
        dueCaps("cap 0 1;credit 100", 0, 1, 2);
        dueCaps("cap 0 101;credit 33", 0, 101, 134);
        dueCaps("cap 0 9999;credit 99", 0, 9999, 19898);
        dueCaps("cap 0 9999;credit 0", 0, 9999, 9999);
    }

    private static void carriageAheadOfCredit() {
        Check.sentence("first with the carriage (added), then, on credit, with the hundredths of that");
        dueCaps("cap 0 101;carriage 7;credit 33", 105, 171, 227);
        dueCaps("cap 0 50;carriage 50;credit 1", 10, 100, 101);
        dueCaps("credit 100;carriage 3;cap 0 1", 10, 4, 8);
    }

    private static void greatestCap() {
        Check.sentence("first with the carriage (added), then, on credit, with the hundredths of that");
        dueCaps("cap 0 9999;carriage 99;credit 100", 2000, 29799, 59598);
        dueCaps("line 0 0;carriage 99;credit 100", 2000, 29799, 59598);
    }

    private static void noCap() {
        Check.sentence("none without one, or in a free TOWN");
        PriceEdict x = new PriceEdict();
        x.town(10);
        Check.due("no EDICT", x.cap(0, 0, false, 1), NONE);
        Check.edict(x, "cap 1 5;carriage 9;credit 9");
        Check.due("none of the THING", x.cap(0, 0, true, 1), NONE);
        Check.due("not heard yet", x.cap(0, 1, true, 0), NONE);
        Check.due("heard", x.cap(0, 1, true, 1), 15);
        x.undo();
        Check.due("undone", x.cap(0, 1, true, 1), NONE);
    }

    private static void freeTowns() {
        Check.sentence("none without one, or in a free TOWN");
        PriceEdict x = new PriceEdict();
        Check.edict(x, "cap 0 5;line 1 2;free 0;free 7");
        for (int town = 0; town < 8; town++) {
            boolean free = town == 0 || town == 7;
            x.town(0);
            Check.due("cap in " + town, x.cap(town, 0, false, 0), free ? NONE : 5);
            Check.due("cap by a LINE in " + town, x.cap(town, 1, true, 0), free ? NONE : 9999);
            Check.due("judge in " + town, x.judge(town, 0, 6, false, 0), free ? 0 : 1);
        }
        Check.due("in force in a free TOWN too", x.force(7, 0), 0);
        Check.edict(x, "cap 0 5");
        Check.due("free no more", x.cap(7, 0, false, 0), 5);
    }

    private static void greatestThatAgrees() {
        Check.sentence("its cap is the greatest price that AGREES on the day that is asked for, or 9999 if none does");
        PriceEdict x = new PriceEdict();
        x.town(20);
        Check.edict(x, "line 1 29;carriage 1;credit 50");
        Check.due("no STONES", x.cap(0, 1, false, 2), 10001);
        x.stone(28, 0, 0, 0, 0);
        Check.due("of another LINE", x.cap(0, 1, false, 2), 10001);
        x.stone(29, 0, 0, 1, NONE);
        Check.due("greatest", x.cap(0, 1, false, 2), 21);
        Check.due("on credit", x.cap(0, 1, true, 2), 31);
        x.habit(1, 0);
        Check.due("with a HABIT", x.cap(0, 1, false, 2), 1121);
    }

    private static void noneAgrees() {
        Check.sentence("or 9999 if none does");
        PriceEdict x = new PriceEdict();
        x.town(0);
        Check.edict(x, "line 5 0");
        x.stone(0, 0, 0, 0, 1);
        Check.due("one does", x.cap(0, 5, false, 0), 1);
        x.stone(0, 0, 0, 0, 2);
        Check.due("none does", x.cap(0, 5, false, 0), 9999);
        Check.due("9999 is lawful", x.judge(0, 5, 9999, false, 0), 0);
        Check.due("10000 is above", x.judge(0, 5, 10000, false, 0), 1);
    }

    private static void capOfNothing() {
        Check.sentence("its cap is the greatest price that AGREES");
        PriceEdict x = new PriceEdict();
        x.town(0);
        x.stone(0, 0, 0, 0, 0);
        Check.edict(x, "line 0 0;credit 100");
        Check.due("a price of 0 is a cap", x.cap(0, 0, false, 0), 0);
        Check.due("on credit too", x.cap(0, 0, true, 0), 0);
        Check.due("0 is lawful", x.judge(0, 0, 0, true, 0), 0);
        Check.due("1 is above", x.judge(0, 0, 1, true, 0), 1);
    }

    private static void lineOnTheDayAskedFor() {
        Check.sentence("on the day that is asked for");
        PriceEdict x = new PriceEdict();
        x.town(0);
        Check.edict(x, "line 0 0");
        x.days(3);
        x.stone(0, 0, 0, 0, 5);
        x.days(3);
        x.strike(0);
        int[] want = {9999, 9999, 9999, 5, 5, 5, 9999, 9999};
        for (int day = 0; day < want.length; day++) {
            Check.due("on " + day, x.cap(0, 0, false, day), want[day]);
            Check.due("a sale for 6 on " + day, x.judge(0, 0, 6, false, day), want[day] == 5 ? 1 : 0);
        }
    }

    private static void byTheEdictHeard() {
        Check.sentence("by the EDICT in force there: as told there");
        PriceEdict x = new PriceEdict();
        x.town(0);
        x.town(50);
        Check.edict(x, "cap 0 10");
        x.days(2);
        Check.edict(x, "cap 0 20;carriage 1");
        x.days(2);
        x.undo();
        int[] near = {10, 10, 20, 20, NONE, NONE, NONE, NONE, NONE, NONE};
        int[] far = {NONE, NONE, NONE, NONE, NONE, 10, 10, 25, 25, NONE};
        for (int day = 0; day < 10; day++) {
            Check.due("near on " + day, x.cap(0, 0, false, day), near[day]);
            Check.due("far on " + day, x.cap(1, 0, false, day), far[day]);
        }
        Check.due("the first of all days", x.cap(0, 0, false, Integer.MIN_VALUE), NONE);
        Check.due("the last of all days", x.cap(1, 0, false, Integer.MAX_VALUE), NONE);
    }

    /** Three TOWNS, the last one free; EDICT 0 from day 0 on, EDICT 1 from day 5 on, undone on day 9. */
    private static PriceEdict threeTowns() {
        PriceEdict x = new PriceEdict();
        x.town(0);
        x.town(25);
        x.town(0);
        x.stone(4, 0, 0, 2, NONE);
        Check.edict(x, "cap 0 10;line 1 4;carriage 3;credit 50;free 2");
        x.days(5);
        Check.edict(x, "line 0 4;credit 100;free 2");
        x.days(4);
        x.undo();
        return x;
    }

    private static final int[][] CAPS_ON_DAYS = {
        // TOWN, THING, day, CAP, CAP on credit
        {0, 0, 0, 10, 15}, {0, 1, 0, 29, 43}, {0, 2, 0, NONE, NONE}, {0, 0, 4, 10, 15}, {0, 0, 5, 29, 58},
        {0, 1, 5, NONE, NONE}, {0, 0, 8, 29, 58}, {0, 0, 9, NONE, NONE}, {0, 0, -1, NONE, NONE},
        {1, 0, 1, NONE, NONE}, {1, 0, 2, 16, 24}, {1, 1, 2, 35, 52}, {1, 1, 6, 35, 52}, {1, 1, 7, NONE, NONE},
        {1, 0, 7, 29, 58}, {1, 0, 10, 29, 58}, {1, 0, 11, NONE, NONE},
        {2, 0, 0, NONE, NONE}, {2, 1, 4, NONE, NONE}, {2, 0, 5, NONE, NONE}, {2, 0, 9, NONE, NONE},
    };

    private static void capOrNone() {
        Check.sentence("CAP of a THING in a TOWN on a day, on credit or not: by the EDICT in force there");
        PriceEdict x = threeTowns();
        for (int[] row : CAPS_ON_DAYS) {
            String where = "in " + row[0] + " of " + row[1] + " on " + row[2];
            Check.due("cap " + where, x.cap(row[0], row[1], false, row[2]), row[3]);
            Check.due("on credit " + where, x.cap(row[0], row[1], true, row[2]), row[4]);
        }
        Check.sentence("CAP; NONE.");
        for (int town = 0; town < 3; town++) {
            for (int thing = 0; thing < 6; thing++) {
                Check.due("none of " + thing + " in " + town, x.cap(town, thing, true, 5000), NONE);
            }
        }
    }

    private static void lawfulOrAbove() {
        Check.sentence("A sale in a TOWN on a day of a THING for a price, on credit or not, is 0 lawful, or 1 above the CAP.");
        PriceEdict x = new PriceEdict();
        x.town(10);
        Check.edict(x, "cap 0 10;carriage 2;credit 50");
        Check.due("below", x.judge(0, 0, 11, false, 1), 0);
        Check.due("the CAP", x.judge(0, 0, 12, false, 1), 0);
        Check.due("above", x.judge(0, 0, 13, false, 1), 1);
        Check.due("the CAP on credit", x.judge(0, 0, 18, true, 1), 0);
        Check.due("above on credit", x.judge(0, 0, 19, true, 1), 1);
        Check.due("for nothing", x.judge(0, 0, 0, false, 1), 0);
        Check.due("for the highest number", x.judge(0, 0, Integer.MAX_VALUE, true, 1), 1);
    }

    private static void withoutACap() {
        Check.sentence("is 0 lawful, or 1 above the CAP");
        PriceEdict x = new PriceEdict();
        x.town(10);
        Check.due("without an EDICT", x.judge(0, 0, Integer.MAX_VALUE, false, 1), 0);
        Check.due("for nothing", x.judge(0, 0, 0, false, 1), 0);
        Check.edict(x, "cap 0 10");
        Check.due("not heard yet", x.judge(0, 0, 11, false, 0), 0);
        Check.due("heard", x.judge(0, 0, 11, false, 1), 1);
        Check.due("of another THING", x.judge(0, 1, 11, false, 1), 0);
        x.undo();
        Check.due("undone", x.judge(0, 0, 11, false, 1), 0);
    }

    private static void judgedByTheCap() {
        Check.sentence("A sale is judged: 0 or 1.");
        PriceEdict x = threeTowns();
        for (int[] row : CAPS_ON_DAYS) {
            for (int credit = 0; credit < 2; credit++) {
                int cap = row[3 + credit];
                int price = cap == NONE ? 100000 : cap;
                String where = "in " + row[0] + " of " + row[1] + " on " + row[2] + " for ";
                Check.due(where + price, x.judge(row[0], row[1], price, credit == 1, row[2]), 0);
                Check.due(where + (price + 1), x.judge(row[0], row[1], price + 1, credit == 1, row[2]), cap == NONE ? 0 : 1);
            }
        }
    }

    private static void priceBelowNothing() {
        Check.sentence("IllegalArgumentException: price is below 0.");
        PriceEdict x = new PriceEdict();
        x.town(0);
        Check.dueIllegal("price -1", () -> x.judge(0, 0, -1, false, 0));
        Check.dueIllegal("the lowest number", () -> x.judge(0, 5, Integer.MIN_VALUE, true, 0));
        Check.due("price 0", x.judge(0, 0, 0, false, 0), 0);
        Check.dueIndex("in no TOWN", () -> x.judge(1, 0, -1, false, 0));
        Check.dueIndex("of no THING", () -> x.judge(0, 6, -1, false, 0));
    }

    private static void noSuchTownOrThing() {
        Check.sentence("IndexOutOfBoundsException: there is no such LINE, STONE, THING, TOWN, EDICT.");
        PriceEdict x = new PriceEdict();
        Check.dueIndex("cap without TOWNS", () -> x.cap(0, 0, false, 0));
        Check.dueIndex("judge without TOWNS", () -> x.judge(0, 0, 0, false, 0));
        x.town(0);
        for (int n : new int[] {Integer.MIN_VALUE, -1, 6, 7, 8, Integer.MAX_VALUE}) {
            Check.dueIndex("cap in " + n, () -> x.cap(n, 0, false, 0));
            Check.dueIndex("cap of " + n, () -> x.cap(0, n, true, 0));
            Check.dueIndex("judge in " + n, () -> x.judge(n, 0, 0, false, 0));
            Check.dueIndex("judge of " + n, () -> x.judge(0, n, 0, true, 0));
        }
        Check.dueIndex("cap in 1 of one", () -> x.cap(1, 0, false, 0));
        Check.dueIndex("judge in 1 of one", () -> x.judge(1, 0, 0, false, 0));
        Check.due("THING 5", x.cap(0, 5, false, 0), NONE);
    }
}
