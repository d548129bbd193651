/** Promises 18 and 19: cap, judge. */
public final class CapTest {
    private static final int NONE = PriceEdict.NONE;

    public static void main(String[] args) {
        carriageAndCredit();
        greatestOfAll();
        freeTowns();
        lines();
        byTheEdictHeard();
        judging();
        wrongCalls();
        Check.end();
    }

    private static void carriageAndCredit() {
        PriceEdict x = new PriceEdict();
        x.town(0);
        x.town(9);
        x.town(19);
        x.town(105);
        Check.edict(x, "cap 3 101;carriage 7;credit 33");
        int[] plain = {101, 101, 108, 171};
        int[] onCredit = {134, 134, 143, 227};
        for (int town = 0; town < 4; town++) {
            Check.due("cap in " + town, x.cap(town, 3, false, 10), plain[town]);
            Check.due("cap on credit in " + town, x.cap(town, 3, true, 10), onCredit[town]);
            Check.due("no cap in " + town, x.cap(town, 2, true, 10), NONE);
        }
        Check.edict(x, "cap 3 101");
        Check.due("no carriage", x.cap(3, 3, false, 10), 101);
        Check.due("no credit", x.cap(3, 3, true, 10), 101);
    }

    private static void greatestOfAll() {
        PriceEdict x = new PriceEdict();
        x.town(2000);
        Check.edict(x, "cap 0 9999;carriage 99;credit 100");
        Check.due("cap", x.cap(0, 0, false, 200), 29799);
        Check.due("on credit", x.cap(0, 0, true, 200), 59598);
    }

    private static void freeTowns() {
        PriceEdict x = new PriceEdict();
        Check.edict(x, "cap 0 5;free 0;free 7");
        for (int town = 0; town < 8; town++) {
            x.town(0);
            Check.due("cap in " + town, x.cap(town, 0, false, 0), town == 0 || town == 7 ? NONE : 5);
        }
        Check.due("in force in a free TOWN too", x.force(7, 0), 0);
        Check.edict(x, "cap 0 5");
        Check.due("free no more", x.cap(7, 0, false, 0), 5);
    }

    private static void lines() {
        PriceEdict x = new PriceEdict();
        x.town(20);
        Check.edict(x, "line 1 29;carriage 1;credit 50");
        Check.due("no STONES", x.cap(0, 1, false, 2), 10001);
        x.days(5);
        x.stone(29, 0, 0, 1, -1);
        Check.due("greatest", x.cap(0, 1, false, 5), 21);
        Check.due("on credit", x.cap(0, 1, true, 5), 31);
        Check.due("a day ahead of the STONE", x.cap(0, 1, false, 4), 10001);
        x.stone(29, 0, 0, 2, -1);
        Check.due("none agrees", x.cap(0, 1, false, 5), 10001);
        x.strike(1);
        x.habit(1, 0);
        Check.due("struck out, with a habit", x.cap(0, 1, false, 5), 1121);
        x.stone(29, 0, 0, 0, 0);
        x.stone(29, 1, -1, -1, 0);
        x.stone(29, 0, -1, -1, 0);
        Check.due("every place misread", x.cap(0, 1, false, 5), 1113);
        PriceEdict y = new PriceEdict();
        y.town(0);
        y.stone(0, 0, 0, 0, 0);
        Check.edict(y, "line 0 0");
        Check.due("a price of 0 is a cap", y.cap(0, 0, true, 0), 0);
        Check.due("above it", y.judge(0, 0, 1, true, 0), 1);
    }

    private static void byTheEdictHeard() {
        PriceEdict x = new PriceEdict();
        x.town(0);
        x.town(50);
        Check.edict(x, "cap 0 10");
        x.days(2);
        Check.edict(x, "cap 0 20;carriage 1");
        x.days(2);
        x.undo();
        int[] near = {10, 10, 20, 20, NONE, NONE, NONE, NONE, NONE, NONE};
        int[] far = {NONE, NONE, NONE, NONE, NONE, 10, 10, 25, 25, NONE};
        for (int day = 0; day < 10; day++) {
            Check.due("near on " + day, x.cap(0, 0, false, day), near[day]);
            Check.due("far on " + day, x.cap(1, 0, false, day), far[day]);
        }
        Check.due("ahead of all", x.cap(0, 0, false, -1), NONE);
    }

    private static void judging() {
        PriceEdict x = new PriceEdict();
        x.town(10);
        Check.due("without an EDICT", x.judge(0, 0, Integer.MAX_VALUE, false, 1), 0);
        Check.edict(x, "cap 0 10;carriage 2;credit 50");
        Check.due("the cap", x.judge(0, 0, 12, false, 1), 0);
        Check.due("above", x.judge(0, 0, 13, false, 1), 1);
        Check.due("the cap on credit", x.judge(0, 0, 18, true, 1), 0);
        Check.due("above on credit", x.judge(0, 0, 19, true, 1), 1);
        Check.due("nothing", x.judge(0, 0, 0, false, 1), 0);
        Check.due("far above", x.judge(0, 0, Integer.MAX_VALUE, true, 1), 1);
        Check.due("not heard", x.judge(0, 0, 13, false, 0), 0);
        Check.due("no cap", x.judge(0, 1, 13, false, 1), 0);
    }

    private static void wrongCalls() {
        PriceEdict x = new PriceEdict();
        Check.dueIndex("cap without TOWNS", () -> x.cap(0, 0, false, 0));
        x.town(0);
        for (int n : new int[] {-1, 6, 7, 8, Integer.MIN_VALUE, Integer.MAX_VALUE}) {
            Check.dueIndex("cap in " + n, () -> x.cap(n, 0, false, 0));
            Check.dueIndex("cap of " + n, () -> x.cap(0, n, true, 0));
            Check.dueIndex("judge in " + n, () -> x.judge(n, 0, -1, false, 0));
            Check.dueIndex("judge of " + n, () -> x.judge(0, n, -1, true, 0));
        }
        Check.dueIndex("cap in 1", () -> x.cap(1, 0, false, 0));
        Check.dueIllegal("judge of -1", () -> x.judge(0, 0, -1, false, 0));
        Check.dueIllegal("judge of the lowest", () -> x.judge(0, 5, Integer.MIN_VALUE, true, 0));
    }
}
