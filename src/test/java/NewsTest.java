/** Promises 10 and 17: undo, force. */
public final class NewsTest {
    public static void main(String[] args) {
        undos();
        hearing();
        sameDay();
        allThatCanBeTold();
        wrongTowns();
        Check.end();
    }

    private static void undos() {
        PriceEdict x = new PriceEdict();
        x.town(0);
        Check.due("none told", x.undo(), false);
        Check.dueFault(x, "no", 0);
        Check.due("still none told", x.undo(), false);
        Check.edict(x, "free 7");
        Check.due("undone", x.undo(), true);
        Check.due("undone already", x.undo(), false);
        x.days(3);
        Check.due("undone for long", x.undo(), false);
        Check.edict(x, "free 7");
        Check.due("the next is in force", x.force(0, 3), 1);
        Check.due("undone too", x.undo(), true);
        Check.due("none in force", x.force(0, 3), PriceEdict.NONE);
    }

    private static void hearing() {
        PriceEdict x = new PriceEdict();
        int[] miles = {0, 9, 10, 19, 20, 2000};
        int[] late = {0, 0, 1, 1, 2, 200};
        for (int mile : miles) {
            x.town(mile);
        }
        x.days(100);
        Check.edict(x, "free 7");
        x.days(30);
        Check.edict(x, "free 7");
        x.days(10);
        x.undo();
        for (int town = 0; town < miles.length; town++) {
            String at = "force at " + miles[town] + " miles";
            Check.due(at + " ahead of 0", x.force(town, 99 + late[town]), PriceEdict.NONE);
            Check.due(at + " from 0 on", x.force(town, 100 + late[town]), 0);
            Check.due(at + " up to 1", x.force(town, 129 + late[town]), 0);
            Check.due(at + " from 1 on", x.force(town, 130 + late[town]), 1);
            Check.due(at + " up to the undoing", x.force(town, 139 + late[town]), 1);
            Check.due(at + " from the undoing on", x.force(town, 140 + late[town]), PriceEdict.NONE);
            Check.due(at + " first of all days", x.force(town, Integer.MIN_VALUE), PriceEdict.NONE);
            Check.due(at + " last of all days", x.force(town, Integer.MAX_VALUE), PriceEdict.NONE);
        }
        Check.edict(x, "free 7");
        Check.due("last of all days, told again", x.force(5, Integer.MAX_VALUE), 2);
        Check.due("a TOWN that came later", x.town(55), 6);
        Check.due("it heard too", x.force(6, 105), 0);
        Check.due("as late", x.force(6, 104), PriceEdict.NONE);
    }

    private static void sameDay() {
        PriceEdict x = new PriceEdict();
        x.town(30);
        Check.edict(x, "free 7");
        Check.edict(x, "free 7");
        Check.due("the one told last", x.force(0, 3), 1);
        x.undo();
        Check.due("undone on its day", x.force(0, 3), PriceEdict.NONE);
        Check.edict(x, "free 7");
        Check.due("told again on that day", x.force(0, 3), 2);
        Check.due("not heard yet", x.force(0, 2), PriceEdict.NONE);
    }

    private static void allThatCanBeTold() {
        PriceEdict x = new PriceEdict();
        x.town(10);
        for (int i = 0; i < 20; i++) {
            Check.due("edict " + i, Check.edict(x, "free 7"), i);
            x.days(1);
            Check.due("undo " + i, x.undo(), true);
            x.days(1);
        }
        for (int i = 0; i < 20; i++) {
            Check.due("force of " + i, x.force(0, 2 * i + 1), i);
            Check.due("force behind " + i, x.force(0, 2 * i + 2), PriceEdict.NONE);
        }
    }

    private static void wrongTowns() {
        PriceEdict x = new PriceEdict();
        Check.dueIndex("force(0) without TOWNS", () -> x.force(0, 0));
        x.town(0);
        Check.dueIndex("force(1)", () -> x.force(1, 0));
        Check.dueIndex("force(-1)", () -> x.force(-1, 0));
        Check.dueIndex("force(8)", () -> x.force(8, 0));
        Check.dueIndex("force(highest)", () -> x.force(Integer.MAX_VALUE, 0));
    }
}
