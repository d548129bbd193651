/** Promise 22: count. */
public final class CountTest {
    public static void main(String[] args) {
        eachCount();
        fullCounts();
        stockOfAll();
        linesOfJustOne();
        anotherWhat();
        Check.end();
    }

    private static void dueCounts(String when, PriceEdict x, int... want) {
        for (int what = 0; what < want.length; what++) {
            Check.due(when + ": count " + what, x.count(what), want[what]);
        }
    }

    private static void eachCount() {
        Check.sentence("0 TODAY, 1 STONES, 2 of them not struck out, 3 HABITS, 4 EDICTS, 5 TOWNS, 6 STOCK of all, "
                + "7 HIDDEN of all, 8 LINES of which just one price AGREES TODAY.");
        PriceEdict x = new PriceEdict();
        dueCounts("new", x, 0, 0, 0, 0, 0, 0, 0, 0, 0);
        x.town(0);
        x.town(10);
        x.goods(0, 0, 0, 10, 9, 0);
        x.goods(1, 5, 0, 10, 7, 0);
        Check.edict(x, "cap 0 5");
        x.weeks(1);
        dueCounts("a WEEK", x, 7, 0, 0, 0, 1, 2, 12, 4, 0);
        x.stone(0, 1, 2, 3, 4);
        x.stone(29, 1, 2, 3, -1);
        x.stone(29, -1, -1, -1, 4);
        x.stone(5, 1, 1, 1, -1);
        dueCounts("STONES", x, 7, 4, 4, 0, 1, 2, 12, 4, 2);
        x.strike(3);
        x.strike(3);
        x.habit(4, 9);
        x.habit(9, 4);
        dueCounts("a HABIT", x, 7, 4, 3, 1, 1, 2, 12, 4, 0);
        x.undo();
        x.days(1);
        dueCounts("a day later", x, 8, 4, 3, 1, 1, 2, 12, 4, 0);
        x.goods(1, 5, 0, 10, 5, 0);
        Check.edict(x, "cap 5 5");
        x.weeks(1);
        dueCounts("another TOWN hides", x, 15, 4, 3, 1, 2, 2, 24, 6, 0);
    }

    private static void fullCounts() {
        Check.sentence("0 TODAY, 1 STONES, 2 of them not struck out, 3 HABITS, 4 EDICTS, 5 TOWNS");
        PriceEdict x = new PriceEdict();
        for (int i = 0; i < 60; i++) {
            x.stone(i / 2, 9, 9, 9, 9);
        }
        for (int i = 0; i < 20; i++) {
            Check.edict(x, "free 1");
        }
        for (int i = 0; i < 8; i++) {
            x.town(0);
        }
        for (int i = 0; i < 50; i++) {
            x.days(100);
        }
        dueCounts("full", x, 5000, 60, 60, 0, 20, 8, 0, 0, 30);
        for (int i = 0; i < 60; i++) {
            x.strike(i);
        }
        x.undo();
        Check.due("STONES", x.count(1), 60);
        Check.due("of them not struck out", x.count(2), 0);
        Check.due("an EDICT undone is one", x.count(4), 20);
        Check.due("LINES of just one", x.count(8), 0);
    }

    private static void stockOfAll() {
        Check.sentence("6 STOCK of all, 7 HIDDEN of all");
        PriceEdict x = new PriceEdict();
        for (int town = 0; town < 8; town++) {
            x.town(0);
            for (int thing = 0; thing < 6; thing++) {
                x.goods(town, thing, 0, 9, 1000, 0);
            }
        }
        Check.edict(x, "cap 0 8;cap 5 8");
        x.weeks(2);
        // Of two THINGS in eight TOWNS: 500 and then 750 of each 2000 stay in STOCK.
        Check.due("STOCK of all", x.count(6), 8 * (4 * 2000 + 2 * 750));
        Check.due("HIDDEN of all", x.count(7), 8 * 2 * 1250);
        x.undo();
        for (int i = 0; i < 15; i++) {
            x.weeks(50);
        }
        Check.due("the most STOCK", x.count(6), 48 * 714000);
        Check.due("none is HIDDEN", x.count(7), 0);
    }

    private static void linesOfJustOne() {
        Check.sentence("8 LINES of which just one price AGREES TODAY");
        PriceEdict x = new PriceEdict();
        x.stone(0, 0, 0, 0, 0);
        Check.due("LINE 0", x.count(8), 1);
        x.stone(29, 9, 9, 9, 9);
        Check.due("LINE 29 too", x.count(8), 2);
        x.stone(29, 9, 9, 9, 8);
        Check.due("none is not one", x.count(8), 1);
        x.habit(8, 7);
        Check.due("nothing that is misread here", x.count(8), 1);
        x.stone(3, 1, 1, 1, 8);
        Check.due("two are not one", x.count(8), 1);
        x.stone(3, 1, 1, 1, 7);
        Check.due("two still", x.count(8), 1);
        x.habit(7, 6);
        x.stone(3, 1, 1, 1, 6);
        Check.due("one by three STONES", x.count(8), 2);
        x.days(1);
        Check.due("known on the next day", x.count(8), 2);
        x.strike(0);
        Check.due("struck out TODAY", x.count(8), 1);
    }

    private static void anotherWhat() {
        Check.sentence("NONE for another what.");
        PriceEdict x = new PriceEdict();
        x.town(0);
        Check.due("count(8)", x.count(8), 0);
        for (int what : new int[] {Integer.MIN_VALUE, -1, 9, Integer.MAX_VALUE}) {
            Check.due("count(" + what + ")", x.count(what), PriceEdict.NONE);
        }
    }
}
