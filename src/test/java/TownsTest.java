/** Promises 11 to 14: town, goods, spoil, carry. */
public final class TownsTest {
    public static void main(String[] args) {
        eightTowns();
        numbersOfTowns();
        milesOfTowns();
        goodsOfNoTown();
        costs();
        bids();
        supplies();
        wants();
        goodsAtFirst();
        goodsAnew();
        goodsRefused();
        goodsOfEach();
        spoilOfThings();
        spoilAtFirst();
        carries();
        carryAtFirst();
        Check.end();
    }

    /** One TOWN of so many miles. */
    private static PriceEdict with(int miles) {
        PriceEdict x = new PriceEdict();
        x.town(miles);
        return x;
    }

    private static void eightTowns() {
        Check.sentence("TOWNS (at most 8, numbered from 0 on)");
        PriceEdict x = new PriceEdict();
        for (int i = 0; i < 8; i++) {
            Check.due("town " + i, x.town(10 * i), i);
            Check.due("how many", x.count(5), i + 1);
        }
        Check.sentence("UnsupportedOperationException: there are 8.");
        Check.dueUnsupported("a 9th", () -> x.town(0));
        Check.due("8 stay", x.count(5), 8);
        Check.dueIndex("there is no 9th", () -> x.force(8, 0));
        Check.edict(x, "cap 0 1");
        Check.due("the 8th keeps its miles", x.force(7, 6), PriceEdict.NONE);
        Check.due("all of them", x.force(7, 7), 0);
        Check.dueIllegal("a 9th with no MILES", () -> x.town(2001));
    }

    private static void numbersOfTowns() {
        Check.sentence("A TOWN: its number.");
        PriceEdict x = new PriceEdict();
        Check.due("the first", x.town(40), 0);
        Check.due("one like it", x.town(40), 1);
        Check.dueIllegal("one that is refused", () -> x.town(-1));
        x.days(9);
        Check.due("on another day", x.town(0), 2);
        x.goods(2, 0, 0, 9, 5, 0);
        x.weeks(1);
        Check.due("its number tells of it", x.look(2, 0, 0), 5);
        Check.due("the others have none of it", x.look(0, 0, 0) + x.look(1, 0, 0), 0);
    }

    private static void milesOfTowns() {
        Check.sentence("MILES (0 to 2000)");
        PriceEdict x = new PriceEdict();
        Check.due("0 miles", x.town(0), 0);
        Check.due("2000 miles", x.town(2000), 1);
        Check.sentence("IllegalArgumentException: MILES are none");
        for (int miles : new int[] {Integer.MIN_VALUE, -1, 2001, Integer.MAX_VALUE}) {
            Check.dueIllegal("town(" + miles + ")", () -> x.town(miles));
        }
        Check.due("two stay", x.count(5), 2);
        Check.due("the next number", x.town(5), 2);
    }

    private static void goodsOfNoTown() {
        Check.sentence("IndexOutOfBoundsException: there is no such LINE, STONE, THING, TOWN, EDICT.");
        PriceEdict x = new PriceEdict();
        Check.dueIndex("goods without TOWNS", () -> x.goods(0, 0, 1, 1, 1, 1));
        x.town(0);
        Check.dueIndex("in -1", () -> x.goods(-1, 0, 1, 1, 1, 1));
        Check.dueIndex("in 1 of one", () -> x.goods(1, 0, 1, 1, 1, 1));
        Check.dueIndex("in 8", () -> x.goods(8, 0, 1, 1, 1, 1));
        Check.dueIndex("of -1", () -> x.goods(0, -1, 1, 1, 1, 1));
        Check.dueIndex("of 6", () -> x.goods(0, 6, 1, 1, 1, 1));
        Check.due("a TOWN that comes later has none of it", x.town(0), 1);
        Check.due("BID", x.look(1, 0, 7), 0);
    }

    /** What 0 to 6 of look() is, of THING 0, behind one WEEK. */
    private static int behindAWeek(PriceEdict x, int what) {
        x.weeks(1);
        return x.look(0, 0, what);
    }

    private static void costs() {
        Check.sentence("COST (0 to 9999: of what is brought, where it comes from)");
        PriceEdict x = with(0);
        x.goods(0, 0, 0, 0, 3, 0);
        Check.due("COST 0 at PRICE 0", behindAWeek(x, 2), 3);
        x.goods(0, 0, 9999, 9999, 3, 0);
        Check.due("COST 9999 at PRICE 9999", behindAWeek(x, 2), 6);
        x.goods(0, 0, 9999, 9998, 3, 0);
        Check.due("COST 9999 at PRICE 9998", behindAWeek(x, 2), 6);
        Check.dueIllegal("COST -1", () -> x.goods(0, 0, -1, 9, 9, 9));
        Check.dueIllegal("COST 10000", () -> x.goods(0, 0, 10000, 9, 9, 9));
        Check.due("as it was", behindAWeek(x, 2), 6);
        Check.due("BID as it was", x.look(0, 0, 7), 9998);
    }

    private static void bids() {
        Check.sentence("BID (0 to 9999: what is paid without a cap)");
        PriceEdict x = with(0);
        x.goods(0, 0, 0, 9999, 1, 1);
        Check.due("BID 9999", x.look(0, 0, 7), 9999);
        x.goods(0, 0, 0, 0, 1, 1);
        Check.due("BID 0", x.look(0, 0, 7), 0);
        x.goods(0, 0, 0, 77, 1, 1);
        Check.dueIllegal("BID -1", () -> x.goods(0, 0, 9, -1, 9, 9));
        Check.dueIllegal("BID 10000", () -> x.goods(0, 0, 9, 10000, 9, 9));
        Check.due("as it was", behindAWeek(x, 5), 77);
    }

    private static void supplies() {
        Check.sentence("SUPPLY (0 to 1000 a week)");
        PriceEdict x = with(0);
        x.goods(0, 0, 0, 9, 0, 0);
        Check.due("SUPPLY 0", behindAWeek(x, 2), 0);
        x.goods(0, 0, 0, 9, 1000, 0);
        Check.due("SUPPLY 1000", behindAWeek(x, 2), 1000);
        Check.dueIllegal("SUPPLY -1", () -> x.goods(0, 0, 0, 9, -1, 9));
        Check.dueIllegal("SUPPLY 1001", () -> x.goods(0, 0, 0, 9, 1001, 9));
        Check.due("as it was", behindAWeek(x, 2), 2000);
    }

    private static void wants() {
        Check.sentence("WANT (0 to 1000 a week)");
        PriceEdict x = with(0);
        x.goods(0, 0, 0, 9, 1000, 0);
        Check.due("WANT 0", behindAWeek(x, 3), 0);
        x.goods(0, 0, 0, 9, 1000, 1000);
        Check.due("WANT 1000", behindAWeek(x, 3), 1000);
        Check.dueIllegal("WANT -1", () -> x.goods(0, 0, 0, 9, 9, -1));
        Check.dueIllegal("WANT 1001", () -> x.goods(0, 0, 0, 9, 9, 1001));
        Check.due("as it was", behindAWeek(x, 3), 2000);
        Check.due("what was not wanted", x.look(0, 0, 0), 1000);
    }

    private static void goodsAtFirst() {
        Check.sentence("STOCK and HIDDEN (0 at first), all 0 at first");
        PriceEdict x = with(0);
        x.town(2000);
        for (int town = 0; town < 2; town++) {
            for (int thing = 0; thing < 6; thing++) {
                for (int what = 0; what < 8; what++) {
                    Check.due("look(" + town + ", " + thing + ", " + what + ")", x.look(town, thing, what), 0);
                }
            }
        }
        x.weeks(3);
        for (int what = 0; what < 8; what++) {
            Check.due("three WEEKS later: look " + what, x.look(1, 5, what), 0);
        }
    }

    private static void goodsAnew() {
        Check.sentence("GOODS of a TOWN and THING.");
        PriceEdict x = with(0);
        x.goods(0, 0, 0, 10, 9, 1);
        Check.edict(x, "cap 0 5");
        x.weeks(1);
        x.goods(0, 0, 1, 20, 0, 0);
        int[] want = {4, 4, 9, 1, 0, 5, 50, 5};
        for (int what = 0; what < 8; what++) {
            Check.due("what is there stays: look " + what, x.look(0, 0, what), want[what]);
        }
        x.undo();
        Check.due("the new BID", x.look(0, 0, 7), 20);
        Check.due("the new SUPPLY", behindAWeek(x, 2), 9);
        Check.due("the new WANT", x.look(0, 0, 3), 1);
    }

    private static void goodsRefused() {
        Check.sentence("IllegalArgumentException: a number is none.");
        PriceEdict x = with(0);
        x.goods(0, 0, 4, 10, 9, 2);
        int[][] rows = {{-1, 8, 7, 6}, {10000, 8, 7, 6}, {3, -1, 7, 6}, {3, 10000, 7, 6}, {3, 8, -1, 6}, {3, 8, 1001, 6},
            {3, 8, 7, -1}, {3, 8, 7, 1001}};
        for (int[] row : rows) {
            Check.dueIllegal("one of four is none", () -> x.goods(0, 0, row[0], row[1], row[2], row[3]));
        }
        Check.due("BID as it was", x.look(0, 0, 7), 10);
        Check.due("SUPPLY as it was", behindAWeek(x, 2), 9);
        Check.due("WANT as it was", x.look(0, 0, 3), 2);
        Check.edict(x, "cap 0 3");
        Check.due("COST as it was", behindAWeek(x, 2), 9);
    }

    private static void goodsOfEach() {
        Check.sentence("GOODS: of each TOWN and THING");
        PriceEdict x = new PriceEdict();
        for (int town = 0; town < 8; town++) {
            x.town(0);
            for (int thing = 0; thing < 6; thing++) {
                x.goods(town, thing, 0, 100 + thing, 10 * town + thing, 0);
            }
        }
        x.weeks(2);
        for (int town = 0; town < 8; town++) {
            for (int thing = 0; thing < 6; thing++) {
                Check.due("STOCK of " + town + ", " + thing, x.look(town, thing, 0), 2 * (10 * town + thing));
                Check.due("PRICE of " + town + ", " + thing, x.look(town, thing, 7), 100 + thing);
            }
        }
    }

    private static void spoilOfThings() {
        Check.sentence("SPOIL (0 to 100: hundredths of a THING that spoil a week; 0 at first)");
        PriceEdict x = with(0);
        x.town(0);
        for (int town = 0; town < 2; town++) {
            for (int thing = 0; thing < 6; thing++) {
                x.goods(town, thing, 0, 1, 200, 0);
            }
        }
        x.spoil(0, 100);
        x.spoil(1, 0);
        x.spoil(5, 50);
        Check.dueIndex("of -1", () -> x.spoil(-1, 10));
        Check.dueIndex("of 6", () -> x.spoil(6, 10));
        Check.sentence("SPOIL of a THING. IllegalArgumentException: it is none.");
        for (int n : new int[] {Integer.MIN_VALUE, -1, 101, Integer.MAX_VALUE}) {
            Check.dueIllegal("spoil " + n, () -> x.spoil(5, n));
        }
        Check.dueIndex("of no THING, and none", () -> x.spoil(6, 101));
        x.weeks(1);
        int[] want = {200, 0, 0, 0, 0, 100};
        for (int thing = 0; thing < 6; thing++) {
            Check.due("SPOILT of " + thing, x.look(0, thing, 4), want[thing]);
            Check.due("in the other TOWN", x.look(1, thing, 4), want[thing]);
        }
        x.spoil(0, 0);
        x.weeks(1);
        Check.due("told anew", x.look(0, 0, 4), 200);
    }

    private static void spoilAtFirst() {
        Check.sentence("SPOIL (0 to 100: hundredths of a THING that spoil a week; 0 at first)");
        PriceEdict x = with(0);
        x.goods(0, 0, 0, 1, 1000, 0);
        Check.due("nothing spoils", behindAWeek(x, 4), 0);
        Check.due("all is there", x.look(0, 0, 0), 1000);
    }

    private static void carries() {
        Check.sentence("CARRY (0 to 99 for each 10 miles; 1 at first): what bringing a piece costs besides.");
        PriceEdict x = with(10);
        x.carry(99);
        x.goods(0, 0, 1, 99, 5, 0);
        Check.due("99 for 10 miles at 99", behindAWeek(x, 2), 0);
        x.goods(0, 0, 1, 100, 5, 0);
        Check.due("99 for 10 miles at 100", behindAWeek(x, 2), 5);
        Check.sentence("CARRY. IllegalArgumentException: it is none.");
        for (int n : new int[] {Integer.MIN_VALUE, -1, 100, Integer.MAX_VALUE}) {
            Check.dueIllegal("carry " + n, () -> x.carry(n));
        }
        Check.due("as it was at 100", behindAWeek(x, 2), 10);
        x.goods(0, 0, 1, 99, 5, 0);
        Check.due("as it was at 99", behindAWeek(x, 2), 10);
        x.carry(0);
        x.goods(0, 0, 1, 1, 5, 0);
        Check.due("0 at 1", behindAWeek(x, 2), 15);
        x.goods(0, 0, 1, 0, 5, 0);
        Check.due("0 at 0", behindAWeek(x, 2), 15);
    }

    private static void carryAtFirst() {
        Check.sentence("CARRY (0 to 99 for each 10 miles; 1 at first)");
        PriceEdict x = with(2000);
        x.goods(0, 0, 0, 199, 5, 0);
        Check.due("2000 miles at 199", behindAWeek(x, 2), 0);
        x.goods(0, 0, 0, 200, 5, 0);
        Check.due("2000 miles at 200", behindAWeek(x, 2), 5);
    }
}
