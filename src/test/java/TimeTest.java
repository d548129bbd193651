/** Promises 15 and 16: weeks, days. */
public final class TimeTest {
    public static void main(String[] args) {
        soManyWeeks();
        weeksOutOfBounds();
        lastWeek();
        weekBeyond();
        soManyDays();
        daysOutOfBounds();
        lastDay();
        noWeekGoesBy();
        sevenDays();
        Check.end();
    }

    /** One TOWN to which one piece is brought each WEEK, on that day: look what 2 counts WEEKS. */
    private static PriceEdict on(int day) {
        PriceEdict x = new PriceEdict();
        x.town(0);
        x.goods(0, 0, 0, 1, 1, 0);
        for (int gone = 0; gone < day; gone += 100) {
            x.days(Math.min(100, day - gone));
        }
        return x;
    }

    private static void dueWeeks(String when, PriceEdict x, int want) {
        Check.due(when + ": WEEKS", x.look(0, 0, 2), want);
    }

    private static void soManyWeeks() {
        Check.sentence("So many WEEKS, as far as TODAY may go");
        PriceEdict x = on(0);
        Check.due("weeks(0)", x.weeks(0), 0);
        dueWeeks("none", x, 0);
        Check.due("weeks(1)", x.weeks(1), 7);
        dueWeeks("one", x, 1);
        Check.due("weeks(50)", x.weeks(50), 357);
        dueWeeks("51", x, 51);
    }

    private static void weeksOutOfBounds() {
        Check.sentence("IllegalArgumentException: not 0 to 50.");
        PriceEdict x = on(3);
        for (int n : new int[] {Integer.MIN_VALUE, -1, 51, Integer.MAX_VALUE}) {
            Check.dueIllegal("weeks(" + n + ")", () -> x.weeks(n));
        }
        Check.due("TODAY stays", x.count(0), 3);
        dueWeeks("none", x, 0);
        PriceEdict late = on(5000);
        Check.dueIllegal("weeks(51) on the last day", () -> late.weeks(51));
        Check.due("weeks(50) on the last day", late.weeks(50), 5000);
    }

    private static void lastWeek() {
        Check.sentence("(a WEEK that would go beyond is none): TODAY.");
        PriceEdict x = on(4993);
        Check.due("to the last day", x.weeks(1), 5000);
        dueWeeks("one", x, 1);
        PriceEdict y = on(4986);
        Check.due("two are left of five", y.weeks(5), 5000);
        dueWeeks("two", y, 2);
        PriceEdict z = on(4992);
        Check.due("one is left of fifty", z.weeks(50), 4999);
        dueWeeks("one of fifty", z, 1);
    }

    private static void weekBeyond() {
        Check.sentence("(a WEEK that would go beyond is none)");
        PriceEdict x = on(4994);
        Check.due("none is left", x.weeks(1), 4994);
        dueWeeks("none", x, 0);
        PriceEdict y = on(5000);
        Check.due("none on the last day", y.weeks(1), 5000);
        dueWeeks("none on the last day", y, 0);
    }

    private static void soManyDays() {
        Check.sentence("TODAY is so many days later");
        PriceEdict x = on(0);
        Check.due("days(0)", x.days(0), 0);
        Check.due("days(1)", x.days(1), 1);
        Check.due("days(100)", x.days(100), 101);
        Check.due("TODAY", x.count(0), 101);
    }

    private static void daysOutOfBounds() {
        Check.sentence("IllegalArgumentException: not 0 to 100.");
        PriceEdict x = on(3);
        for (int n : new int[] {Integer.MIN_VALUE, -1, 101, Integer.MAX_VALUE}) {
            Check.dueIllegal("days(" + n + ")", () -> x.days(n));
        }
        Check.due("TODAY stays", x.count(0), 3);
        PriceEdict late = on(5000);
        Check.dueIllegal("days(101) on the last day", () -> late.days(101));
        Check.due("days(100) on the last day", late.days(100), 5000);
    }

    private static void lastDay() {
        Check.sentence("(no WEEK goes by; 5000 at most): TODAY.");
        Check.due("to 4999", on(4995).days(4), 4999);
        Check.due("to 5000", on(4995).days(5), 5000);
        Check.due("beyond", on(4995).days(6), 5000);
        Check.due("far beyond", on(4999).days(100), 5000);
        Check.due("from 4900", on(4900).days(100), 5000);
    }

    private static void noWeekGoesBy() {
        Check.sentence("(no WEEK goes by; 5000 at most)");
        PriceEdict x = on(0);
        x.days(100);
        dueWeeks("none", x, 0);
        Check.due("no STOCK", x.look(0, 0, 0), 0);
    }

    private static void sevenDays() {
        Check.sentence("A WEEK: TODAY is 7 more; then each TOWN, each THING, by numbers");
        PriceEdict x = new PriceEdict();
        x.town(70);
        x.goods(0, 0, 0, 50, 10, 0);
        Check.edict(x, "cap 0 49");
        x.weeks(1);
        Check.due("heard on the seventh day: half is HIDDEN", x.look(0, 0, 1), 5);
        PriceEdict y = new PriceEdict();
        y.town(80);
        y.goods(0, 0, 0, 50, 10, 0);
        Check.edict(y, "cap 0 49");
        y.weeks(1);
        Check.due("heard on the eighth: nothing is", y.look(0, 0, 1), 0);
    }
}
