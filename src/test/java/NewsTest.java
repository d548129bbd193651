/** Promises 10 and 17: undo, force. */
public final class NewsTest {
    private static final int NONE = PriceEdict.NONE;

    public static void main(String[] args) {
        noneTold();
        undone();
        undoneAgain();
        untilTheNext();
        aTenthOfTheMiles();
        heardLast();
        inPlaceOfTheOneBefore();
        severalOnOneDay();
        toldOnTheFirstDay();
        toldOnTheLastDay();
        townsThatComeLater();
        upToNow();
        allThatCanBeTold();
        noSuchTown();
        Check.end();
    }

    private static int tell(PriceEdict x) {
        return Check.edict(x, "free 7");
    }

    private static void noneTold() {
        Check.sentence("false, and nothing happens, if there is none told, or the latest is undone");
        PriceEdict x = new PriceEdict();
        x.town(0);
        Check.due("none told", x.undo(), false);
        Check.dueFault(x, "no", 0);
        Check.due("a wrong text is none", x.undo(), false);
        Check.due("none in force", x.force(0, 0), NONE);
        Check.due("the first is in force all the same", tell(x) + x.force(0, 0), 0);
    }

    private static void undone() {
        Check.sentence("UNDOING: true; false, and nothing happens");
        PriceEdict x = new PriceEdict();
        x.town(0);
        tell(x);
        x.days(5);
        Check.due("undo", x.undo(), true);
        Check.due("the day ahead", x.force(0, 4), 0);
        Check.due("TODAY", x.force(0, 5), NONE);
        Check.due("later", x.force(0, 5000), NONE);
        Check.due("EDICTS stay", x.count(4), 1);
    }

    private static void undoneAgain() {
        Check.sentence("false, and nothing happens, if there is none told, or the latest is undone");
        PriceEdict x = new PriceEdict();
        x.town(0);
        tell(x);
        tell(x);
        x.days(3);
        Check.due("undo", x.undo(), true);
        Check.due("again on that day", x.undo(), false);
        Check.due("the one before does not come back", x.force(0, 3), NONE);
        x.days(3);
        Check.due("again later", x.undo(), false);
        Check.due("it was in force up to the first", x.force(0, 2), 1);
        Check.due("not behind it", x.force(0, 3), NONE);
    }

    private static void untilTheNext() {
        Check.sentence("UNDOING: from TODAY on there is none, until the next is told.");
        PriceEdict x = new PriceEdict();
        x.town(0);
        tell(x);
        x.days(3);
        x.undo();
        x.days(2);
        Check.due("the next", tell(x), 1);
        Check.due("undone", x.force(0, 3), NONE);
        Check.due("up to the next", x.force(0, 4), NONE);
        Check.due("from the next on", x.force(0, 5), 1);
        Check.due("that can be undone too", x.undo(), true);
        Check.due("on its own day", x.force(0, 5), NONE);
    }

    private static void aTenthOfTheMiles() {
        Check.sentence("A TOWN HEARS of what was told on a day as many days later as a tenth of its miles, rounded down");
        int[] miles = {0, 9, 10, 19, 20, 105, 1999, 2000};
        int[] late = {0, 0, 1, 1, 2, 10, 199, 200};
        PriceEdict x = new PriceEdict();
        for (int mile : miles) {
            x.town(mile);
        }
        x.days(100);
        tell(x);
        x.days(30);
        tell(x);
        x.days(10);
        x.undo();
        for (int town = 0; town < miles.length; town++) {
            String at = "force at " + miles[town] + " miles";
            Check.due(at + " ahead of 0", x.force(town, 99 + late[town]), NONE);
            Check.due(at + " from 0 on", x.force(town, 100 + late[town]), 0);
            Check.due(at + " up to 1", x.force(town, 129 + late[town]), 0);
            Check.due(at + " from 1 on", x.force(town, 130 + late[town]), 1);
            Check.due(at + " up to the UNDOING", x.force(town, 139 + late[town]), 1);
            Check.due(at + " from the UNDOING on", x.force(town, 140 + late[town]), NONE);
        }
    }

    private static void heardLast() {
        Check.sentence("what is in force in a TOWN on a day is what it HEARD last by then");
        PriceEdict x = new PriceEdict();
        x.town(30);
        tell(x);
        x.days(2);
        tell(x);
        int[] want = {NONE, NONE, NONE, 0, 0, 1, 1};
        for (int day = 0; day < want.length; day++) {
            Check.due("on " + day, x.force(0, day), want[day]);
        }
    }

    private static void inPlaceOfTheOneBefore() {
        Check.sentence("are told on TODAY (0 at first, 5000 at last), each in place of the one before.");
        PriceEdict x = new PriceEdict();
        x.town(10);
        x.town(10);
        Check.edict(x, "cap 0 5;cap 1 6;carriage 9;credit 100;free 1");
        x.days(3);
        Check.edict(x, "cap 0 7");
        Check.due("what both tell", x.cap(0, 0, true, 4), 7);
        Check.due("what the one before told alone", x.cap(0, 1, true, 4), NONE);
        Check.due("the TOWN that was free", x.cap(1, 0, true, 4), 7);
        Check.due("the one before on its days", x.cap(0, 1, true, 3), 30);
        Check.due("free on its days", x.cap(1, 1, true, 3), NONE);
    }

    private static void severalOnOneDay() {
        Check.sentence("(of several heard on one day the one told last), if that is an EDICT");
        PriceEdict x = new PriceEdict();
        x.town(30);
        tell(x);
        tell(x);
        Check.due("the one told last", x.force(0, 3), 1);
        x.undo();
        Check.due("the UNDOING", x.force(0, 3), NONE);
        tell(x);
        Check.due("told again", x.force(0, 3), 2);
        Check.due("not heard yet", x.force(0, 2), NONE);
    }

    private static void toldOnTheFirstDay() {
        Check.sentence("are told on TODAY (0 at first, 5000 at last)");
        PriceEdict x = new PriceEdict();
        x.town(0);
        tell(x);
        Check.due("day 0", x.force(0, 0), 0);
        Check.due("day -1", x.force(0, -1), NONE);
        Check.due("the first of all days", x.force(0, Integer.MIN_VALUE), NONE);
    }

    private static void toldOnTheLastDay() {
        Check.sentence("are told on TODAY (0 at first, 5000 at last)");
        PriceEdict x = new PriceEdict();
        x.town(0);
        x.town(2000);
        for (int i = 0; i < 50; i++) {
            x.days(100);
        }
        tell(x);
        Check.due("day 4999", x.force(0, 4999), NONE);
        Check.due("day 5000", x.force(0, 5000), 0);
        Check.due("far away on 5199", x.force(1, 5199), NONE);
        Check.due("far away on 5200", x.force(1, 5200), 0);
        Check.due("the last of all days", x.force(1, Integer.MAX_VALUE), 0);
        x.undo();
        Check.due("undone on 5000", x.force(0, 5000), NONE);
        Check.due("undone far away", x.force(1, Integer.MAX_VALUE), NONE);
    }

    private static void townsThatComeLater() {
        Check.sentence("A TOWN HEARS of what was told on a day");
        PriceEdict x = new PriceEdict();
        tell(x);
        x.days(100);
        Check.due("a TOWN that comes later", x.town(55), 0);
        Check.due("heard too", x.force(0, 5), 0);
        Check.due("as late", x.force(0, 4), NONE);
    }

    private static void upToNow() {
        Check.sentence("The EDICT in force in a TOWN on a day, by what was told up to now; NONE.");
        PriceEdict x = new PriceEdict();
        x.town(0);
        Check.due("nothing told", x.force(0, 100), NONE);
        tell(x);
        Check.due("of a day to come", x.force(0, 100), 0);
        x.days(100);
        Check.due("on that day", x.force(0, 100), 0);
        x.undo();
        Check.due("undone on it", x.force(0, 100), NONE);
    }

    private static void allThatCanBeTold() {
        Check.sentence("EDICTS (at most 20, numbered from 0 on)");
        PriceEdict x = new PriceEdict();
        x.town(10);
        for (int i = 0; i < 20; i++) {
            Check.due("edict " + i, tell(x), i);
            x.days(1);
            Check.due("undo " + i, x.undo(), true);
            x.days(1);
        }
        for (int i = 0; i < 20; i++) {
            Check.due("force of " + i, x.force(0, 2 * i + 1), i);
            Check.due("force behind " + i, x.force(0, 2 * i + 2), NONE);
        }
        Check.due("the last is undone", x.undo(), false);
    }

    private static void noSuchTown() {
        Check.sentence("IndexOutOfBoundsException: there is no such LINE, STONE, THING, TOWN, EDICT.");
        PriceEdict x = new PriceEdict();
        Check.dueIndex("force(0) without TOWNS", () -> x.force(0, 0));
        x.town(0);
        x.town(0);
        for (int town : new int[] {Integer.MIN_VALUE, -1, 2, 7, 8, Integer.MAX_VALUE}) {
            Check.dueIndex("force(" + town + ")", () -> x.force(town, 0));
        }
        Check.due("force(1)", x.force(1, 0), NONE);
    }
}
