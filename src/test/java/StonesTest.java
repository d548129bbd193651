/** Promises 4 to 7: stone, strike, habit, agree. */
public final class StonesTest {
    private static final int NONE = PriceEdict.NONE;
    private static final int[] ALL = {10000, 0, 9999, 0};
    private static final int[] NOTHING = {0, NONE, NONE, 0};

    public static void main(String[] args) {
        sixtyStones();
        numbersOfStones();
        linesOfStones();
        figuresOfStones();
        placesOfFigures();
        foundOnADay();
        struckOutOnADay();
        struckOutOnTheSameDay();
        struckOutOnce();
        noSuchStone();
        habitsBothWays();
        habitsOnceAndForAll();
        allHabits();
        wrongHabits();
        misreadOnce();
        wornFigures();
        pricesAtTheEnds();
        allStonesOfALine();
        noStones();
        howMany();
        nothingAgrees();
        justOne();
        anotherWhat();
        anyDay();
        Check.end();
    }

    /** What agree() tells: how many, the least, the greatest, whether it is just one. */
    private static void dueAgree(String when, PriceEdict x, int line, int day, int... want) {
        for (int what = 0; what < 4; what++) {
            Check.due(when + ": agree(" + line + ", " + day + ", " + what + ")", x.agree(line, day, what), want[what]);
        }
    }

    private static void sixtyStones() {
        Check.sentence("STONES (at most 60, numbered from 0 on)");
        PriceEdict x = new PriceEdict();
        for (int i = 0; i < 60; i++) {
            Check.due("stone " + i, x.stone(i / 2, i / 10, i % 10, NONE, NONE), i);
        }
        Check.sentence("UnsupportedOperationException: there are 60.");
        Check.dueUnsupported("a 61st", () -> x.stone(3, 9, 9, 9, 9));
        Check.due("60 stay", x.count(1), 60);
        dueAgree("its line as it was", x, 3, 0, NOTHING);
        Check.due("the 60th counts", x.strike(59), true);
        dueAgree("the 59th alone", x, 29, 0, 100, 5800, 5899, 0);
        Check.dueUnsupported("one struck out leaves no room", () -> x.stone(3, 9, 9, 9, 9));
        Check.dueIndex("the 61st cannot be struck out", () -> x.strike(60));
    }

    private static void numbersOfStones() {
        Check.sentence("A STONE is found TODAY: its number.");
        PriceEdict x = new PriceEdict();
        Check.due("the first", x.stone(7, 1, 1, 1, 1), 0);
        Check.due("of another LINE", x.stone(29, 1, 1, 1, 1), 1);
        Check.due("one like the first", x.stone(7, 1, 1, 1, 1), 2);
        Check.dueIllegal("one that is refused", () -> x.stone(7, 1, 1, 1, 10));
        x.strike(2);
        x.days(9);
        Check.due("on another day", x.stone(7, 2, 2, 2, 2), 3);
        dueAgree("found on that day, not ahead of it", x, 7, 8, 1, 1111, 1111, 1);
        dueAgree("TODAY", x, 7, 9, NOTHING);
        Check.due("its number strikes it out", x.strike(3), true);
        dueAgree("as ahead of it", x, 7, 9, 1, 1111, 1111, 1);
    }

    private static void linesOfStones() {
        Check.sentence("each has a LINE (0 to 29) with four FIGURES");
        PriceEdict x = new PriceEdict();
        Check.due("line 0", x.stone(0, 1, 2, 3, 4), 0);
        Check.due("line 29", x.stone(29, 5, 6, 7, 8), 1);
        Check.dueIndex("line -1", () -> x.stone(-1, 0, 0, 0, 0));
        Check.dueIndex("line 30", () -> x.stone(30, 0, 0, 0, 0));
        Check.due("two stay", x.count(1), 2);
        dueAgree("first", x, 0, 0, 1, 1234, 1234, 1);
        dueAgree("second", x, 1, 0, ALL);
        dueAgree("last but one", x, 28, 0, ALL);
        dueAgree("last", x, 29, 0, 1, 5678, 5678, 1);
        Check.dueIndex("agree of line -1", () -> x.agree(-1, 0, 0));
        Check.dueIndex("agree of line 30", () -> x.agree(30, 0, 0));
    }

    private static void figuresOfStones() {
        Check.sentence("four FIGURES, from the thousands on: 0 to 9, or WORN (NONE)");
        PriceEdict x = new PriceEdict();
        x.stone(0, 0, 0, 0, 0);
        dueAgree("0 in each place", x, 0, 0, 1, 0, 0, 1);
        x.stone(1, 9, 9, 9, 9);
        dueAgree("9 in each place", x, 1, 0, 1, 9999, 9999, 1);
        x.stone(2, NONE, NONE, NONE, NONE);
        dueAgree("WORN in each place", x, 2, 0, ALL);
        Check.sentence("IllegalArgumentException: a FIGURE is none");
        for (int figure : new int[] {-2, 10}) {
            Check.dueIllegal("thousands " + figure, () -> x.stone(3, figure, 0, 0, 0));
            Check.dueIllegal("hundreds " + figure, () -> x.stone(3, 0, figure, 0, 0));
            Check.dueIllegal("tens " + figure, () -> x.stone(3, 0, 0, figure, 0));
            Check.dueIllegal("ones " + figure, () -> x.stone(3, 0, 0, 0, figure));
        }
        dueAgree("none came", x, 3, 0, ALL);
        Check.due("three stay", x.count(1), 3);
    }

    private static void placesOfFigures() {
        Check.sentence("four FIGURES, from the thousands on");
        PriceEdict x = new PriceEdict();
        x.stone(0, 1, NONE, NONE, NONE);
        dueAgree("thousands", x, 0, 0, 1000, 1000, 1999, 0);
        x.stone(1, NONE, 2, NONE, NONE);
        dueAgree("hundreds", x, 1, 0, 1000, 200, 9299, 0);
        x.stone(2, NONE, NONE, 3, NONE);
        dueAgree("tens", x, 2, 0, 1000, 30, 9939, 0);
        x.stone(3, NONE, NONE, NONE, 4);
        dueAgree("ones", x, 3, 0, 1000, 4, 9994, 0);
    }

    private static void foundOnADay() {
        Check.sentence("known from the day on which it was found up to, not on, the one on which it was struck out");
        PriceEdict x = new PriceEdict();
        x.days(3);
        x.stone(5, 1, 1, 1, 1);
        x.days(4);
        dueAgree("the day ahead", x, 5, 2, ALL);
        dueAgree("the day", x, 5, 3, 1, 1111, 1111, 1);
        dueAgree("TODAY", x, 5, 7, 1, 1111, 1111, 1);
        dueAgree("behind TODAY", x, 5, 5000, 1, 1111, 1111, 1);
    }

    private static void struckOutOnADay() {
        Check.sentence("known from the day on which it was found up to, not on, the one on which it was struck out");
        PriceEdict x = new PriceEdict();
        x.days(3);
        x.stone(5, 1, 1, 1, 1);
        x.days(4);
        Check.due("strike", x.strike(0), true);
        dueAgree("the day ahead", x, 5, 6, 1, 1111, 1111, 1);
        dueAgree("not on the day", x, 5, 7, ALL);
        dueAgree("nor behind it", x, 5, 8, ALL);
        dueAgree("from the day it was found on", x, 5, 3, 1, 1111, 1111, 1);
        dueAgree("not ahead of that", x, 5, 2, ALL);
    }

    private static void struckOutOnTheSameDay() {
        Check.sentence("found on a day, and, perhaps, struck out on a later or the same day");
        PriceEdict x = new PriceEdict();
        x.stone(5, 1, 1, 1, 1);
        Check.due("strike on day 0", x.strike(0), true);
        x.days(2);
        x.stone(5, 2, 2, 2, 2);
        Check.due("strike on day 2", x.strike(1), true);
        for (int day = -1; day < 4; day++) {
            dueAgree("never known", x, 5, day, ALL);
        }
        Check.due("two are STONES", x.count(1), 2);
        Check.due("both are struck out", x.count(2), 0);
    }

    private static void struckOutOnce() {
        Check.sentence("A STONE is struck out TODAY: whether it was not.");
        PriceEdict x = new PriceEdict();
        x.stone(5, 1, 1, 1, 1);
        x.days(2);
        Check.due("the first time", x.strike(0), true);
        Check.due("again on that day", x.strike(0), false);
        x.days(2);
        Check.due("again later", x.strike(0), false);
        dueAgree("known up to the first time", x, 5, 1, 1, 1111, 1111, 1);
        dueAgree("not from then on", x, 5, 2, ALL);
        Check.due("it is one", x.count(1) - x.count(2), 1);
    }

    private static void noSuchStone() {
        Check.sentence("IndexOutOfBoundsException: there is no such LINE, STONE, THING, TOWN, EDICT.");
        PriceEdict x = new PriceEdict();
        Check.dueIndex("strike(0) of none", () -> x.strike(0));
        x.stone(0, 1, 1, 1, 1);
        x.stone(0, 1, 1, 1, 2);
        Check.dueIndex("strike(-1)", () -> x.strike(-1));
        Check.dueIndex("strike(2) of two", () -> x.strike(2));
        Check.dueIndex("strike(59) of two", () -> x.strike(59));
        Check.dueIndex("strike(60)", () -> x.strike(60));
        Check.due("none is struck out", x.count(2), 2);
        Check.due("strike(1) of two", x.strike(1), true);
        Check.due("strike(0) of two", x.strike(0), true);
    }

    private static void habitsBothWays() {
        Check.sentence("HABITS: pairs of unlike figures that are misread for one another");
        PriceEdict x = new PriceEdict();
        x.stone(0, 0, 0, 0, 0);
        x.stone(1, 9, 9, 9, 9);
        Check.due("habit(0, 9)", x.habit(0, 9), true);
        dueAgree("0 in each place", x, 0, 0, 16, 0, 9999, 0);
        dueAgree("9 in each place", x, 1, 0, 16, 0, 9999, 0);
        Check.sentence("A HABIT: whether it was not told.");
        Check.due("habit(0, 9) again", x.habit(0, 9), false);
        Check.due("habit(9, 0)", x.habit(9, 0), false);
        Check.due("it is one", x.count(3), 1);
        Check.due("habit(9, 1)", x.habit(9, 1), true);
        Check.due("habit(1, 9)", x.habit(1, 9), false);
        Check.due("they are two", x.count(3), 2);
    }

    private static void habitsOnceAndForAll() {
        Check.sentence("(told once and for all)");
        PriceEdict x = new PriceEdict();
        x.stone(0, 1, 2, 3, 4);
        x.days(10);
        x.strike(0);
        dueAgree("without the HABIT", x, 0, 0, 1, 1234, 1234, 1);
        x.habit(4, 5);
        dueAgree("on an earlier day", x, 0, 0, 2, 1234, 1235, 0);
        dueAgree("up to the strike", x, 0, 9, 2, 1234, 1235, 0);
        x.stone(0, 1, 2, 3, 5);
        dueAgree("of a later STONE", x, 0, 10, 2, 1234, 1235, 0);
    }

    private static void allHabits() {
        Check.sentence("pairs of unlike figures");
        PriceEdict x = new PriceEdict();
        x.stone(0, 3, 3, 3, 3);
        int told = 0;
        for (int a = 0; a < 10; a++) {
            for (int b = a + 1; b < 10; b++) {
                Check.due("habit(" + a + ", " + b + ")", x.habit(a, b), true);
                told++;
                Check.due("how many", x.count(3), told);
            }
        }
        Check.due("all are told", x.habit(9, 8), false);
        Check.due("45 of them", x.count(3), 45);
        dueAgree("with all of them", x, 0, 0, ALL);
    }

    private static void wrongHabits() {
        Check.sentence("IllegalArgumentException: figures are none, or one.");
        PriceEdict x = new PriceEdict();
        // 32 and 42 too: as shifts of a bit they would be 0 and 10 again.
        for (int figure : new int[] {NONE, 10, 32, 42, Integer.MIN_VALUE, Integer.MAX_VALUE}) {
            Check.dueIllegal("habit(" + figure + ", 1)", () -> x.habit(figure, 1));
            Check.dueIllegal("habit(1, " + figure + ")", () -> x.habit(1, figure));
        }
        for (int i = 0; i < 10; i++) {
            int figure = i;
            Check.dueIllegal("habit of " + figure + " alone", () -> x.habit(figure, figure));
        }
        Check.dueIllegal("habit(-1, -1)", () -> x.habit(NONE, NONE));
        Check.due("none is told", x.count(3), 0);
    }

    private static void misreadOnce() {
        Check.sentence("if each of its four figures is that of the STONE, or one that is misread for it");
        PriceEdict x = new PriceEdict();
        x.stone(0, 1, 2, 3, 4);
        x.habit(4, 5);
        x.habit(5, 6);
        dueAgree("4 is not misread for 6", x, 0, 0, 2, 1234, 1235, 0);
        x.stone(1, 0, 0, 0, 5);
        dueAgree("5 is misread for 4 and 6", x, 1, 0, 3, 4, 6, 0);
        x.stone(1, 0, 0, 0, 6);
        dueAgree("6 is misread for 5", x, 1, 0, 2, 5, 6, 0);
        x.stone(2, 5, NONE, NONE, 0);
        dueAgree("beside WORN ones", x, 2, 0, 300, 4000, 6990, 0);
    }

    private static void wornFigures() {
        Check.sentence("or one that is misread for it, or that of the STONE is WORN");
        int[] prices = {10, 100, 1000, 10000};
        for (int worn = 1; worn <= 4; worn++) {
            PriceEdict x = new PriceEdict();
            x.stone(0, worn > 3 ? NONE : 5, worn > 2 ? NONE : 5, worn > 1 ? NONE : 5, NONE);
            Check.due("WORN: the last " + worn, x.agree(0, 0, 0), prices[worn - 1]);
            x.habit(0, 9);
            Check.due("no HABIT makes them more", x.agree(0, 0, 0), prices[worn - 1]);
        }
        PriceEdict y = new PriceEdict();
        y.stone(0, NONE, 5, NONE, 5);
        dueAgree("WORN between others", y, 0, 0, 100, 505, 9595, 0);
        y.stone(0, 5, NONE, 5, NONE);
        dueAgree("one STONE tells what the other has WORN", y, 0, 0, 1, 5555, 5555, 1);
        y.stone(0, NONE, NONE, NONE, NONE);
        dueAgree("all WORN tells nothing", y, 0, 0, 1, 5555, 5555, 1);
    }

    private static void pricesAtTheEnds() {
        Check.sentence("A price (0 to 9999) AGREES with a STONE");
        PriceEdict x = new PriceEdict();
        x.stone(0, 0, 0, 0, NONE);
        dueAgree("from 0 on", x, 0, 0, 10, 0, 9, 0);
        x.stone(1, 9, 9, 9, NONE);
        dueAgree("up to 9999", x, 1, 0, 10, 9990, 9999, 0);
    }

    private static void allStonesOfALine() {
        Check.sentence("all prices that AGREE with all STONES of it that are known then");
        PriceEdict x = new PriceEdict();
        x.stone(4, 1, NONE, NONE, NONE);
        x.stone(5, 2, NONE, NONE, NONE);
        x.days(1);
        x.stone(4, NONE, NONE, NONE, 7);
        x.days(1);
        x.stone(4, NONE, 0, 0, NONE);
        dueAgree("the first", x, 4, 0, 1000, 1000, 1999, 0);
        dueAgree("and the second", x, 4, 1, 100, 1007, 1997, 0);
        dueAgree("and the third", x, 4, 2, 1, 1007, 1007, 1);
        dueAgree("another line", x, 5, 2, 1000, 2000, 2999, 0);
        x.strike(0);
        dueAgree("without the first", x, 4, 2, 10, 7, 9007, 0);
    }

    private static void noStones() {
        Check.sentence("(all 10000, if there are none)");
        PriceEdict x = new PriceEdict();
        for (int line = 0; line < 30; line++) {
            dueAgree("a new object", x, line, 0, ALL);
        }
        x.days(1);
        x.stone(7, 1, 2, 3, 4);
        dueAgree("none of another line", x, 6, 1, ALL);
        dueAgree("none yet", x, 7, 0, ALL);
        x.strike(0);
        dueAgree("none any more", x, 7, 1, ALL);
    }

    private static void howMany() {
        Check.sentence("AGREEING of a LINE on a day: what 0 how many, 1 the least, 2 the greatest");
        PriceEdict x = new PriceEdict();
        // Of 1 two figures may stand for it, of 4 three, of 7 four.
        int[][] habits = {{1, 2}, {4, 3}, {4, 5}, {7, 6}, {7, 8}, {7, 9}};
        for (int[] habit : habits) {
            x.habit(habit[0], habit[1]);
        }
        x.stone(0, 0, 0, 0, 0);
        x.stone(1, 0, 0, 0, 1);
        x.stone(2, 0, 0, 4, 0);
        x.stone(3, 0, 7, 0, 0);
        x.stone(4, 1, 0, 4, 0);
        x.stone(5, 7, 4, 1, 0);
        x.stone(6, 7, 4, 1, NONE);
        x.stone(7, 7, 7, 7, 7);
        dueAgree("1 of each place", x, 0, 0, 1, 0, 0, 1);
        dueAgree("2 of the last", x, 1, 0, 2, 1, 2, 0);
        dueAgree("3 of the third", x, 2, 0, 3, 30, 50, 0);
        dueAgree("4 of the second", x, 3, 0, 4, 600, 900, 0);
        dueAgree("2 times 3", x, 4, 0, 6, 1030, 2050, 0);
        dueAgree("4 times 3 times 2", x, 5, 0, 24, 6310, 9520, 0);
        dueAgree("4 times 3 times 2 times 10", x, 6, 0, 240, 6310, 9529, 0);
        dueAgree("4 of each place", x, 7, 0, 256, 6666, 9999, 0);
    }

    private static void nothingAgrees() {
        Check.sentence("1 the least, 2 the greatest (NONE, if there are none)");
        for (int place = 0; place < 4; place++) {
            PriceEdict x = new PriceEdict();
            int[] figures = {NONE, NONE, NONE, NONE};
            figures[place] = 3;
            x.stone(0, figures[0], figures[1], figures[2], figures[3]);
            figures[place] = 4;
            x.stone(0, figures[0], figures[1], figures[2], figures[3]);
            dueAgree("unlike in place " + place, x, 0, 0, NOTHING);
            x.habit(3, 4);
            Check.due("with a HABIT", x.agree(0, 0, 0), 2000);
        }
    }

    private static void justOne() {
        Check.sentence("3 1 if it is just one, else 0");
        PriceEdict x = new PriceEdict();
        x.stone(0, 1, 2, 3, NONE);
        Check.due("ten", x.agree(0, 0, 3), 0);
        x.stone(0, 1, 2, 3, 4);
        Check.due("one", x.agree(0, 0, 3), 1);
        x.habit(4, 5);
        Check.due("two agree", x.agree(0, 0, 0), 2);
        Check.due("two", x.agree(0, 0, 3), 0);
        x.stone(0, NONE, NONE, NONE, 6);
        Check.due("none", x.agree(0, 0, 3), 0);
    }

    private static void anotherWhat() {
        Check.sentence("NoSuchElementException: another what.");
        PriceEdict x = new PriceEdict();
        for (int what : new int[] {Integer.MIN_VALUE, -1, 4, Integer.MAX_VALUE}) {
            Check.dueNoElement("agree what " + what, () -> x.agree(0, 0, what));
        }
        Check.dueIndex("no LINE and another what", () -> x.agree(30, 0, 4));
    }

    private static void anyDay() {
        Check.sentence("AGREEING of a LINE on a day");
        PriceEdict x = new PriceEdict();
        x.stone(4, 0, 0, 0, 0);
        x.stone(4, NONE, NONE, NONE, 1);
        dueAgree("day 0", x, 4, 0, NOTHING);
        dueAgree("day -1", x, 4, -1, ALL);
        dueAgree("the first of all days", x, 4, Integer.MIN_VALUE, ALL);
        dueAgree("the last of all days", x, 4, Integer.MAX_VALUE, NOTHING);
        x.strike(1);
        dueAgree("struck out, the last of all days", x, 4, Integer.MAX_VALUE, 1, 0, 0, 1);
    }
}
