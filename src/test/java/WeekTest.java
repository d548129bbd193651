/** A WEEK of the "Terms", and promise 20: look. */
public final class WeekTest {
    private static final int NONE = PriceEdict.NONE;

    public static void main(String[] args) {
        priceIsTheLess();
        priceIsNotOnCredit();
        priceOnThatDay();
        broughtOrNot();
        carriedMiles();
        broughtUnderACap();
        broughtToStock();
        halfIsHidden();
        oneIsNotHalved();
        hiddenComesBack();
        soldAsWanted();
        soldFromStockAlone();
        weightOfAHundred();
        thinnerWeight();
        weightOfNothing();
        spoiltRoundedUp();
        eachByItself();
        allSpoils();
        townsByThemselves();
        eachLook();
        moneyGoesRound();
        greatestSums();
        priceToday();
        anotherWhat();
        noSuchTownOrThing();
        Check.end();
    }

    /** One TOWN without miles, with GOODS of THING 0. */
    private static PriceEdict with(int cost, int bid, int supply, int want) {
        PriceEdict x = new PriceEdict();
        x.town(0);
        x.goods(0, 0, cost, bid, supply, want);
        return x;
    }

    /** What look() tells of TOWN 0 and THING 0, from STOCK on. */
    private static void dueLook(String when, PriceEdict x, int... want) {
        for (int what = 0; what < want.length; what++) {
            Check.due(when + ": look " + what, x.look(0, 0, what), want[what]);
        }
    }

    /** Lays in STOCK that is brought for nothing, and lets the GOODS be as told from then on. */
    private static PriceEdict stocked(int stock, int bid, int want) {
        PriceEdict x = with(0, bid, stock, 0);
        x.weeks(1);
        x.goods(0, 0, 0, bid, 0, want);
        return x;
    }

    private static void priceIsTheLess() {
        Check.sentence("with PRICE: BID, or the CAP there on that day (not on credit), if that is less");
        PriceEdict x = with(0, 50, 0, 0);
        Check.due("no CAP", x.look(0, 0, 7), 50);
        int[] caps = {1, 49, 50, 51, 9999};
        for (int cap : caps) {
            Check.edict(x, "cap 0 " + cap);
            Check.due("CAP " + cap, x.look(0, 0, 7), Math.min(cap, 50));
        }
        Check.edict(x, "cap 0 1;free 0");
        Check.due("a free TOWN", x.look(0, 0, 7), 50);
        x.goods(0, 0, 0, 0, 0, 0);
        Check.edict(x, "cap 0 1");
        Check.due("BID 0", x.look(0, 0, 7), 0);
    }

    private static void priceIsNotOnCredit() {
        Check.sentence("(not on credit)");
        PriceEdict x = with(0, 50, 10, 4);
        Check.edict(x, "cap 0 30;credit 100");
        Check.due("PRICE", x.look(0, 0, 7), 30);
        x.weeks(1);
        dueLook("sold for it", x, 1, 5, 10, 4, 0, 120, 240, 30);
    }

    private static void priceOnThatDay() {
        Check.sentence("the CAP there on that day");
        PriceEdict x = new PriceEdict();
        x.town(80);
        x.goods(0, 0, 0, 50, 10, 10);
        Check.edict(x, "line 0 3;carriage 1");
        x.stone(3, 0, 0, 1, 2);
        x.weeks(1);
        dueLook("not heard by day 7", x, 0, 0, 10, 10, 0, 500, 1000, 50);
        x.weeks(1);
        dueLook("heard by day 14", x, 0, 5, 20, 15, 0, 600, 1200, 20);
        x.strike(0);
        x.weeks(1);
        dueLook("the STONE struck out by day 21", x, 5, 0, 30, 25, 0, 1100, 2200, 50);
    }

    private static void broughtOrNot() {
        Check.sentence("(a) BROUGHT: SUPPLY, if PRICE is not below COST and CARRY times MILES by 10, rounded down; else none: to STOCK.");
        int[] bids = {20, 21, 22};
        int[] brought = {0, 7, 7};
        for (int i = 0; i < 3; i++) {
            PriceEdict x = new PriceEdict();
            x.town(10);
            x.goods(0, 0, 20, bids[i], 7, 0);
            x.weeks(1);
            Check.due("at " + bids[i], x.look(0, 0, 2), brought[i]);
            Check.due("to STOCK at " + bids[i], x.look(0, 0, 0), brought[i]);
        }
    }

    /** The least PRICE at which it is brought over these miles, COST being 100. */
    private static int leastPrice(int miles, int carry) {
        for (int price = 100; price < 9999; price++) {
            PriceEdict x = new PriceEdict();
            x.town(miles);
            x.carry(carry);
            x.goods(0, 0, 100, price, 1, 0);
            x.weeks(1);
            if (x.look(0, 0, 2) == 1) {
                return price;
            }
        }
        return NONE;
    }

    private static void carriedMiles() {
        Check.sentence("CARRY times MILES by 10, rounded down");
        Check.due("1 times 0", leastPrice(0, 1), 100);
        Check.due("1 times 9", leastPrice(9, 1), 100);
        Check.due("1 times 10", leastPrice(10, 1), 101);
        Check.due("1 times 19", leastPrice(19, 1), 101);
        Check.due("1 times 20", leastPrice(20, 1), 102);
        // Rounded down is what comes out at last, as with PRICE times 100 by BID.
        Check.due("7 times 19", leastPrice(19, 7), 113);
        Check.due("99 times 1", leastPrice(1, 99), 109);
        Check.due("0 times 2000", leastPrice(2000, 0), 100);
        PriceEdict x = new PriceEdict();
        x.town(2000);
        x.carry(99);
        x.goods(0, 0, 9999, 9999, 1000, 0);
        x.goods(0, 1, 0, 9999, 1000, 0);
        x.weeks(1);
        Check.due("no PRICE reaches 99 times 2000 by 10", x.look(0, 0, 2) + x.look(0, 1, 2), 0);
    }

    private static void broughtUnderACap() {
        Check.sentence("SUPPLY, if PRICE is not below COST");
        PriceEdict x = with(30, 50, 8, 0);
        Check.edict(x, "cap 0 29");
        x.weeks(1);
        Check.due("CAP 29", x.look(0, 0, 2), 0);
        Check.edict(x, "cap 0 30");
        x.weeks(1);
        Check.due("CAP 30", x.look(0, 0, 2), 8);
    }

    private static void broughtToStock() {
        Check.sentence("else none: to STOCK");
        PriceEdict x = with(5, 10, 0, 0);
        x.weeks(1);
        dueLook("SUPPLY 0", x, 0, 0, 0, 0, 0, 0, 0, 10);
        x.goods(0, 0, 5, 10, 3, 0);
        x.weeks(3);
        dueLook("week by week", x, 9, 0, 9, 0, 0, 0, 0, 10);
        x.goods(0, 0, 11, 10, 3, 0);
        x.weeks(1);
        dueLook("none, what was there stays", x, 9, 0, 9, 0, 0, 0, 0, 10);
    }

    private static void halfIsHidden() {
        Check.sentence("(b) HIDDEN: if PRICE is below BID half of STOCK, rounded down, goes to HIDDEN");
        PriceEdict x = with(0, 10, 21, 0);
        Check.edict(x, "cap 0 9");
        x.weeks(1);
        dueLook("half of what came", x, 11, 10, 21, 0, 0, 0, 0, 9);
        x.weeks(1);
        dueLook("half again", x, 16, 26, 42, 0, 0, 0, 0, 9);
        PriceEdict even = with(0, 10, 20, 0);
        Check.edict(even, "cap 0 1");
        even.weeks(1);
        dueLook("half of an even STOCK", even, 10, 10, 20, 0, 0, 0, 0, 1);
    }

    private static void oneIsNotHalved() {
        Check.sentence("half of STOCK, rounded down, goes to HIDDEN");
        PriceEdict x = with(0, 10, 1, 0);
        Check.edict(x, "cap 0 9");
        x.weeks(1);
        dueLook("of one none", x, 1, 0, 1, 0, 0, 0, 0, 9);
        x.weeks(1);
        dueLook("of two one", x, 1, 1, 2, 0, 0, 0, 0, 9);
        PriceEdict none = with(0, 10, 0, 5);
        Check.edict(none, "cap 0 9");
        none.weeks(1);
        dueLook("of none none", none, 0, 0, 0, 0, 0, 0, 0, 9);
    }

    private static void hiddenComesBack() {
        Check.sentence("else all that is HIDDEN comes back to STOCK");
        PriceEdict x = with(0, 10, 21, 0);
        Check.edict(x, "cap 0 9");
        x.weeks(1);
        Check.edict(x, "cap 0 10");
        x.goods(0, 0, 0, 10, 0, 21);
        x.weeks(1);
        dueLook("PRICE is BID: all is sold", x, 0, 0, 21, 21, 0, 210, 2100, 10);
        PriceEdict y = with(0, 10, 21, 0);
        Check.edict(y, "cap 0 9");
        y.weeks(1);
        y.undo();
        y.weeks(1);
        dueLook("undone", y, 42, 0, 42, 0, 0, 0, 0, 10);
        PriceEdict z = with(0, 10, 21, 0);
        Check.edict(z, "cap 0 9");
        z.weeks(1);
        z.goods(0, 0, 0, 0, 0, 0);
        z.weeks(1);
        dueLook("no BID", z, 21, 0, 21, 0, 0, 0, 0, 0);
    }

    private static void soldAsWanted() {
        Check.sentence("(c) SOLD: as many of STOCK as WANT, each for PRICE");
        int[] wants = {0, 9, 10, 11, 1000};
        for (int want : wants) {
            int sold = Math.min(want, 10);
            PriceEdict x = stocked(10, 7, want);
            x.weeks(1);
            dueLook("WANT " + want, x, 10 - sold, 0, 10, sold, 0, 7 * sold, 100 * sold, 7);
        }
        PriceEdict none = with(0, 7, 0, 5);
        none.weeks(1);
        dueLook("no STOCK", none, 0, 0, 0, 0, 0, 0, 0, 7);
    }

    private static void soldFromStockAlone() {
        Check.sentence("as many of STOCK as WANT");
        PriceEdict x = stocked(10, 7, 10);
        Check.edict(x, "cap 0 6");
        x.weeks(1);
        dueLook("HIDDEN is not sold", x, 0, 5, 10, 5, 0, 30, 425, 6);
        x.weeks(1);
        dueLook("nor later", x, 0, 5, 10, 5, 0, 30, 425, 6);
    }

    private static void weightOfAHundred() {
        Check.sentence("their WEIGHT: a hundred each");
        PriceEdict x = stocked(10, 7, 3);
        Check.edict(x, "cap 0 7");
        x.weeks(1);
        Check.due("PRICE is BID", x.look(0, 0, 6), 300);
        PriceEdict y = stocked(10, 0, 3);
        y.weeks(1);
        Check.due("PRICE and BID are 0", y.look(0, 0, 6), 300);
        Check.due("for nothing", y.look(0, 0, 5), 0);
    }

    private static void thinnerWeight() {
        Check.sentence("or, if PRICE is below BID, PRICE times 100 by BID, rounded down");
        int[][] rows = {{29, 30, 96}, {1, 100, 1}, {1, 101, 0}, {1, 2, 50}, {2, 3, 66}, {9998, 9999, 99}, {1, 9999, 0}, {99, 100, 99}};
        for (int[] row : rows) {
            PriceEdict x = stocked(20, row[1], 7);
            Check.edict(x, "cap 0 " + row[0]);
            x.weeks(1);
            Check.due("PRICE " + row[0] + " BID " + row[1], x.look(0, 0, 6), 7 * row[2]);
            Check.due("money", x.look(0, 0, 5), 7 * row[0]);
        }
    }

    private static void weightOfNothing() {
        Check.sentence("or, if PRICE is below BID, PRICE times 100 by BID, rounded down");
        PriceEdict x = stocked(20, 1, 7);
        x.stone(0, 0, 0, 0, 0);
        Check.edict(x, "line 0 0");
        x.weeks(1);
        dueLook("PRICE 0", x, 3, 10, 20, 7, 0, 0, 0, 0);
    }

    private static void spoiltRoundedUp() {
        Check.sentence("(d) SPOILT: of STOCK, and of HIDDEN, each by itself, SPOIL hundredths, rounded up.");
        int[][] rows = {
            {0, 1, 0}, {1, 1, 1}, {99, 1, 1}, {100, 1, 1}, {101, 1, 2}, {200, 1, 2}, {1, 99, 1}, {2, 50, 1}, {3, 50, 2},
            {10, 10, 1}, {11, 10, 2}, {1000, 99, 990}, {1000, 100, 1000}, {1000, 0, 0}, {1, 0, 0}, {7, 100, 7},
        };
        for (int[] row : rows) {
            PriceEdict x = with(0, 10, row[0], 0);
            x.spoil(0, row[1]);
            x.weeks(1);
            dueLook(row[1] + " hundredths of " + row[0], x, row[0] - row[2], 0, row[0], 0, row[2]);
        }
    }

    private static void eachByItself() {
        Check.sentence("of STOCK, and of HIDDEN, each by itself, SPOIL hundredths, rounded up");
        PriceEdict x = with(0, 10, 22, 1);
        x.spoil(0, 1);
        Check.edict(x, "cap 0 5");
        x.weeks(1);
        dueLook("one of each", x, 9, 10, 22, 1, 2, 5, 50, 5);
        PriceEdict y = stocked(10, 10, 10);
        y.spoil(0, 50);
        Check.edict(y, "cap 0 5");
        y.weeks(1);
        dueLook("of what is left behind the sale", y, 0, 2, 10, 5, 3, 25, 250, 5);
    }

    private static void allSpoils() {
        Check.sentence("SPOIL hundredths, rounded up");
        PriceEdict x = with(0, 10, 22, 1);
        x.spoil(0, 100);
        Check.edict(x, "cap 0 5");
        x.weeks(1);
        dueLook("nothing is left", x, 0, 0, 22, 1, 21, 5, 50, 5);
        x.weeks(1);
        dueLook("nor later", x, 0, 0, 44, 2, 42, 10, 100, 5);
    }

    private static void townsByThemselves() {
        Check.sentence("then each TOWN, each THING, by numbers");
        PriceEdict x = new PriceEdict();
        for (int town = 0; town < 8; town++) {
            x.town(0);
            x.goods(town, 0, 0, 20, 10, 1 + town);
            x.goods(town, 5, 0, 30, 10, 1 + town);
        }
        Check.edict(x, "cap 5 15;free 3");
        x.weeks(1);
        for (int town = 0; town < 8; town++) {
            int left = town == 3 ? 10 : 5;
            int sold = Math.min(1 + town, left);
            Check.due("SOLD of 0 in " + town, x.look(town, 0, 3), 1 + town);
            Check.due("SOLD of 5 in " + town, x.look(town, 5, 3), sold);
            Check.due("HIDDEN of 5 in " + town, x.look(town, 5, 1), 10 - left);
            Check.due("WEIGHT of 5 in " + town, x.look(town, 5, 6), sold * (town == 3 ? 100 : 50));
            Check.due("nothing of 4 in " + town, x.look(town, 4, 2), 0);
        }
    }

    private static void eachLook() {
        Check.sentence("Of a TOWN and THING what 0 STOCK, 1 HIDDEN, 2 all that was BROUGHT, 3 SOLD, 4 SPOILT");
        PriceEdict x = with(0, 20, 100, 7);
        x.spoil(0, 10);
        Check.edict(x, "cap 0 15");
        // 100 come, 50 are HIDDEN, 7 of the others are SOLD; of 43 five spoil, and of 50 five.
        x.weeks(1);
        dueLook("one WEEK", x, 38, 45, 100, 7, 10, 105, 525, 15);
        Check.sentence("5 money that was paid (32 bits, going round), 6 WEIGHT that was sold, 7 PRICE on TODAY.");
        // 138 there, 69 go to 45, 7 are SOLD; of 62 seven spoil, and of 114 twelve.
        x.weeks(1);
        dueLook("two WEEKS", x, 55, 102, 200, 14, 29, 210, 1050, 15);
        x.undo();
        dueLook("undone, ahead of the next WEEK", x, 55, 102, 200, 14, 29, 210, 1050, 20);
        // 155 and 102 are there, 7 are SOLD; of 250 twenty-five spoil.
        x.weeks(1);
        dueLook("three WEEKS", x, 225, 0, 300, 21, 54, 350, 1750, 20);
    }

    private static void moneyGoesRound() {
        Check.sentence("5 money that was paid (32 bits, going round)");
        PriceEdict x = with(0, 9999, 1000, 1000);
        long paid = 0;
        int[] weeks = {50, 50, 50, 50, 14, 1, 50, 50, 50, 50, 14, 1, 50};
        for (int n : weeks) {
            x.weeks(n);
            paid += 9999000L * n;
            // 214 WEEKS stay below 2 to the 31st, 215 do not; 429 stay below 2 to the 32nd, 430 do not.
            Check.due("money of " + paid, x.look(0, 0, 5), (int) paid);
        }
        Check.due("it went round", paid > 1L << 32, true);
    }

    private static void greatestSums() {
        Check.sentence("2 all that was BROUGHT, 3 SOLD, 4 SPOILT");
        PriceEdict x = with(0, 9999, 1000, 1000);
        x.goods(0, 1, 0, 9999, 1000, 0);
        x.goods(0, 2, 0, 9999, 1000, 0);
        x.spoil(2, 100);
        for (int i = 0; i < 15; i++) {
            x.weeks(50);
        }
        Check.due("TODAY", x.count(0), 4998);
        Check.due("BROUGHT in all WEEKS", x.look(0, 0, 2), 714000);
        Check.due("SOLD in all WEEKS", x.look(0, 0, 3), 714000);
        Check.due("WEIGHT of all WEEKS", x.look(0, 0, 6), 71400000);
        Check.due("STOCK of all WEEKS", x.look(0, 1, 0), 714000);
        Check.due("SPOILT in all WEEKS", x.look(0, 2, 4), 714000);
        x.spoil(1, 99);
        Check.due("the last of all", x.look(0, 1, 4), 0);
    }

    private static void priceToday() {
        Check.sentence("7 PRICE on TODAY");
        PriceEdict x = new PriceEdict();
        x.town(70);
        x.goods(0, 0, 0, 50, 0, 0);
        Check.edict(x, "line 0 3");
        x.stone(3, 0, 0, 4, 9);
        Check.due("not heard yet", x.look(0, 0, 7), 50);
        x.days(6);
        Check.due("a day ahead", x.look(0, 0, 7), 50);
        x.days(1);
        Check.due("heard", x.look(0, 0, 7), 49);
        x.strike(0);
        Check.due("struck out TODAY", x.look(0, 0, 7), 50);
    }

    private static void anotherWhat() {
        Check.sentence("NoSuchElementException: another what.");
        PriceEdict x = with(0, 9, 3, 1);
        x.weeks(1);
        dueLook("0 to 7", x, 2, 0, 3, 1, 0, 9, 100, 9);
        for (int what : new int[] {Integer.MIN_VALUE, -1, 8, Integer.MAX_VALUE}) {
            Check.dueNoElement("look what " + what, () -> x.look(0, 0, what));
        }
        Check.dueIndex("in no TOWN, and another what", () -> x.look(1, 0, 8));
        Check.dueIndex("of no THING, and another what", () -> x.look(0, 6, 8));
    }

    private static void noSuchTownOrThing() {
        Check.sentence("IndexOutOfBoundsException: there is no such LINE, STONE, THING, TOWN, EDICT.");
        PriceEdict x = new PriceEdict();
        Check.dueIndex("look without TOWNS", () -> x.look(0, 0, 0));
        x.town(0);
        for (int n : new int[] {Integer.MIN_VALUE, -1, 6, 8, Integer.MAX_VALUE}) {
            Check.dueIndex("look in " + n, () -> x.look(n, 0, 0));
            Check.dueIndex("look of " + n, () -> x.look(0, n, 0));
        }
        Check.dueIndex("look in 1 of one", () -> x.look(1, 0, 0));
        Check.due("THING 5", x.look(0, 5, 7), 0);
    }
}
