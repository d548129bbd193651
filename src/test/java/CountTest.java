/** Promise 22: count. */
public final class CountTest {
    public static void main(String[] args) {
        PriceEdict x = new PriceEdict();
        dueCounts("new", x, 0, 0, 0, 0, 0, 0, 0, 0, 0);
        x.town(0);
        x.town(10);
        x.goods(0, 0, 0, 10, 9, 0);
        x.goods(1, 5, 0, 10, 7, 0);
        Check.edict(x, "cap 0 5");
        x.weeks(1);
        dueCounts("a WEEK", x, 7, 0, 0, 0, 1, 2, 12, 4, 0);
        x.stone(0, 1, 2, 3, 4);
        x.stone(29, 1, 2, 3, -1);
        x.stone(29, -1, -1, -1, 4);
        x.stone(5, 1, 1, 1, -1);
        dueCounts("STONES", x, 7, 4, 4, 0, 1, 2, 12, 4, 2);
        x.strike(3);
        x.strike(3);
        x.habit(4, 9);
        x.habit(9, 4);
        dueCounts("a HABIT", x, 7, 4, 3, 1, 1, 2, 12, 4, 0);
        x.stone(29, -1, -1, -1, 9);
        x.stone(0, -1, -1, -1, 0);
        dueCounts("more STONES", x, 7, 6, 5, 1, 1, 2, 12, 4, 0);
        x.habit(9, 0);
        dueCounts("another HABIT", x, 7, 6, 5, 2, 1, 2, 12, 4, 1);
        x.undo();
        x.days(1);
        x.strike(5);
        dueCounts("a day later", x, 8, 6, 4, 2, 1, 2, 12, 4, 0);
        x.goods(1, 5, 0, 10, 5, 0);
        Check.edict(x, "cap 5 5");
        x.weeks(1);
        dueCounts("another TOWN hides", x, 15, 6, 4, 2, 2, 2, 24, 6, 0);
        Check.due("count(9)", x.count(9), PriceEdict.NONE);
        Check.due("count(-1)", x.count(-1), PriceEdict.NONE);
        Check.due("count(lowest)", x.count(Integer.MIN_VALUE), PriceEdict.NONE);
        Check.due("count(highest)", x.count(Integer.MAX_VALUE), PriceEdict.NONE);
        Check.end();
    }

    private static void dueCounts(String when, PriceEdict x, int... want) {
        for (int what = 0; what < want.length; what++) {
            Check.due(when + ": count " + what, x.count(what), want[what]);
        }
    }
}
