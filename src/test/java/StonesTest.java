/** Promises 4 to 7: stone, strike, habit, agree. */
public final class StonesTest {
    public static void main(String[] args) {
        stoneNumbersAndBounds();
        everyPlace();
        strikes();
        habits();
        habitsDoNotChain();
        agreeing();
        Check.end();
    }

    private static void stoneNumbersAndBounds() {
        PriceEdict x = new PriceEdict();
        for (int i = 0; i < 60; i++) {
            Check.due("stone " + i, x.stone(i % 30, -1, i % 10, 9, 0), i);
        }
        Check.dueUnsupported("stone 60", () -> x.stone(0, 0, 0, 0, 0));
        Check.dueIllegal("stone 60 with no figure", () -> x.stone(0, 10, 0, 0, 0));
        Check.dueIndex("stone 60 of no line", () -> x.stone(30, 10, 0, 0, 0));
        Check.due("60 stay", x.count(1), 60);
        Check.due("agree with 60", x.agree(29, 0, 0), 10);
        Check.due("none of 60 is settled", x.count(8), 0);
        PriceEdict y = new PriceEdict();
        Check.dueIndex("line -1", () -> y.stone(-1, 0, 0, 0, 0));
        Check.dueIndex("line 30", () -> y.stone(30, 0, 0, 0, 0));
        for (int figure : new int[] {-2, 10, Integer.MIN_VALUE, Integer.MAX_VALUE}) {
            Check.dueIllegal("thousands " + figure, () -> y.stone(0, figure, 0, 0, 0));
            Check.dueIllegal("hundreds " + figure, () -> y.stone(0, 0, figure, 0, 0));
            Check.dueIllegal("tens " + figure, () -> y.stone(0, 0, 0, figure, 0));
            Check.dueIllegal("ones " + figure, () -> y.stone(0, 0, 0, 0, figure));
        }
        Check.due("none came", y.count(1), 0);
        Check.due("line 29", y.stone(29, 9, 9, 9, 9), 0);
        Check.due("least of line 29", y.agree(29, 0, 1), 9999);
        Check.due("greatest of line 29", y.agree(29, 0, 2), 9999);
    }

    private static void everyPlace() {
        PriceEdict x = new PriceEdict();
        x.stone(0, 1, 2, 3, 4);
        Check.due("the price", x.agree(0, 0, 1), 1234);
        x.stone(1, 1, -1, -1, -1);
        Check.due("thousands: least", x.agree(1, 0, 1), 1000);
        Check.due("thousands: greatest", x.agree(1, 0, 2), 1999);
        x.stone(2, -1, -1, -1, 4);
        Check.due("ones: how many", x.agree(2, 0, 0), 1000);
        Check.due("ones: least", x.agree(2, 0, 1), 4);
        Check.due("ones: greatest", x.agree(2, 0, 2), 9994);
        x.stone(2, -1, 0, 0, -1);
        Check.due("two stones", x.agree(2, 0, 0), 10);
    }

    private static void strikes() {
        PriceEdict x = new PriceEdict();
        x.days(3);
        x.stone(5, 1, 1, 1, 1);
        x.days(4);
        Check.due("known on 3", x.agree(5, 3, 0), 1);
        Check.due("not known on 2", x.agree(5, 2, 0), 10000);
        Check.due("strike", x.strike(0), true);
        Check.due("not known on 7", x.agree(5, 7, 0), 10000);
        Check.due("known on 6", x.agree(5, 6, 0), 1);
        x.days(5);
        Check.due("strike again", x.strike(0), false);
        Check.due("still not known on 7", x.agree(5, 7, 0), 10000);
        Check.due("still known on 6", x.agree(5, 6, 0), 1);
        x.stone(5, 2, 2, 2, 2);
        Check.due("strike on the same day", x.strike(1), true);
        Check.due("never known", x.agree(5, 12, 0), 10000);
        Check.dueIndex("strike(2)", () -> x.strike(2) ? 1 : 0);
        Check.dueIndex("strike(-1)", () -> x.strike(-1) ? 1 : 0);
        Check.dueIndex("strike(60)", () -> x.strike(60) ? 1 : 0);
    }

    private static void habits() {
        PriceEdict x = new PriceEdict();
        Check.due("habit(0, 9)", x.habit(0, 9), true);
        Check.due("habit(0, 9) again", x.habit(0, 9), false);
        Check.due("habit(9, 0)", x.habit(9, 0), false);
        Check.due("habit(9, 1)", x.habit(9, 1), true);
        for (int figure : new int[] {-1, 10, 32, Integer.MIN_VALUE, Integer.MAX_VALUE}) {
            Check.dueIllegal("habit(" + figure + ", 1)", () -> x.habit(figure, 1) ? 1 : 0);
            Check.dueIllegal("habit(1, " + figure + ")", () -> x.habit(1, figure) ? 1 : 0);
        }
        for (int i = 0; i < 10; i++) {
            int figure = i;
            Check.dueIllegal("habit of one", () -> x.habit(figure, figure) ? 1 : 0);
        }
        Check.due("two are told", x.count(3), 2);
    }

    private static void habitsDoNotChain() {
        PriceEdict x = new PriceEdict();
        x.stone(0, 1, 2, 3, 4);
        x.days(10);
        x.habit(4, 5);
        x.habit(5, 6);
        Check.due("4 is misread for 5 alone", x.agree(0, 10, 0), 2);
        Check.due("greatest", x.agree(0, 10, 2), 1235);
        Check.due("a habit counts for earlier days", x.agree(0, 0, 0), 2);
        x.stone(1, 0, 0, 0, 5);
        Check.due("5 is misread for 4 and 6", x.agree(1, 10, 0), 3);
        Check.due("least", x.agree(1, 10, 1), 4);
        Check.due("greatest of three", x.agree(1, 10, 2), 6);
        x.stone(1, 0, 0, 0, 6);
        Check.due("both stones", x.agree(1, 10, 0), 2);
        Check.due("both: least", x.agree(1, 10, 1), 5);
    }

    private static void agreeing() {
        PriceEdict x = new PriceEdict();
        int[] all = {10000, 0, 9999, 0};
        int[] none = {0, -1, -1, 0};
        int[] one = {1, 0, 0, 1};
        dueFour(x, 4, 0, all);
        x.stone(4, 0, 0, 0, 0);
        dueFour(x, 4, 0, one);
        dueFour(x, 3, 0, all);
        x.stone(4, -1, -1, -1, 1);
        dueFour(x, 4, 0, none);
        dueFour(x, 4, -1, all);
        dueFour(x, 4, Integer.MIN_VALUE, all);
        dueFour(x, 4, Integer.MAX_VALUE, none);
        Check.dueIndex("agree(-1)", () -> x.agree(-1, 0, 0));
        Check.dueIndex("agree(30)", () -> x.agree(30, 0, 9));
        Check.dueNoElement("agree what 4", () -> x.agree(0, 0, 4));
        Check.dueNoElement("agree what -1", () -> x.agree(0, 0, -1));
    }

    private static void dueFour(PriceEdict x, int line, int day, int[] want) {
        for (int what = 0; what < 4; what++) {
            Check.due("agree(" + line + ", " + day + ", " + what + ")", x.agree(line, day, what), want[what]);
        }
    }
}
