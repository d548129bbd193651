/** Promises 11 to 16, 20 and 21: town, goods, spoil, carry, weeks, days, look, buys. */
public final class MarketTest {
    public static void main(String[] args) {
        towns();
        wrongGoods();
        wrongRates();
        days();
        weeks();
        bringing();
        hiding();
        thinning();
        spoiling();
        goodsAnew();
        moneyGoesRound();
        eachTownAndThing();
        lineOfTheWeek();
        looks();
        buying();
        Check.end();
    }

    private static long goods(PriceEdict x, int... n) {
        x.goods(n[0], n[1], n[2], n[3], n[4], n[5]);
        return 0;
    }

    private static long spoil(PriceEdict x, int thing, int n) {
        x.spoil(thing, n);
        return 0;
    }

    private static long carry(PriceEdict x, int n) {
        x.carry(n);
        return 0;
    }

    /** What look() tells, from STOCK on. */
    private static void dueLook(String when, PriceEdict x, int... want) {
        for (int what = 0; what < want.length; what++) {
            Check.due(when + ": look " + what, x.look(0, 0, what), want[what]);
        }
    }

    private static void towns() {
        PriceEdict x = new PriceEdict();
        Check.dueIllegal("town(-1)", () -> x.town(-1));
        Check.dueIllegal("town(2001)", () -> x.town(2001));
        Check.dueIllegal("town(lowest)", () -> x.town(Integer.MIN_VALUE));
        for (int i = 0; i < 8; i++) {
            Check.due("town " + i, x.town(i == 0 ? 2000 : 0), i);
        }
        Check.dueUnsupported("town 8", () -> x.town(0));
        Check.dueIllegal("town 8 with no miles", () -> x.town(2001));
        Check.due("8 stay", x.count(5), 8);
    }

    private static void wrongGoods() {
        PriceEdict x = new PriceEdict();
        x.town(0);
        Check.dueIndex("town 1", () -> goods(x, 1, 0, -1, 0, 0, 0));
        Check.dueIndex("town -1", () -> goods(x, -1, 0, 0, 0, 0, 0));
        Check.dueIndex("thing 6", () -> goods(x, 0, 6, -1, 0, 0, 0));
        Check.dueIndex("thing -1", () -> goods(x, 0, -1, 0, 0, 0, 0));
        goods(x, 0, 0, 1, 2, 3, 4);
        Check.dueIllegal("cost -1", () -> goods(x, 0, 0, -1, 9, 9, 9));
        Check.dueIllegal("cost 10000", () -> goods(x, 0, 0, 10000, 9, 9, 9));
        Check.dueIllegal("bid -1", () -> goods(x, 0, 0, 9, -1, 9, 9));
        Check.dueIllegal("bid 10000", () -> goods(x, 0, 0, 9, 10000, 9, 9));
        Check.dueIllegal("supply -1", () -> goods(x, 0, 0, 9, 9, -1, 9));
        Check.dueIllegal("supply 1001", () -> goods(x, 0, 0, 9, 9, 1001, 9));
        Check.dueIllegal("want -1", () -> goods(x, 0, 0, 9, 9, 9, -1));
        Check.dueIllegal("want 1001", () -> goods(x, 0, 0, 9, 9, 9, 1001));
        Check.due("the former bid", x.look(0, 0, 7), 2);
        x.weeks(1);
        dueLook("the former goods", x, 0, 0, 3, 3, 0, 6, 300, 2);
        goods(x, 0, 5, 9999, 9999, 1000, 1000);
        x.weeks(1);
        Check.due("the greatest goods", x.look(0, 5, 5), 9999000);
    }

    private static void wrongRates() {
        PriceEdict x = new PriceEdict();
        x.town(10);
        x.spoil(5, 100);
        x.spoil(0, 50);
        x.carry(99);
        Check.dueIndex("spoil(-1)", () -> spoil(x, -1, -1));
        Check.dueIndex("spoil(6)", () -> spoil(x, 6, 101));
        Check.dueIllegal("spoil -1", () -> spoil(x, 0, -1));
        Check.dueIllegal("spoil 101", () -> spoil(x, 0, 101));
        Check.dueIllegal("carry -1", () -> carry(x, -1));
        Check.dueIllegal("carry 100", () -> carry(x, 100));
        goods(x, 0, 0, 1, 100, 10, 0);
        goods(x, 0, 1, 2, 100, 10, 0);
        goods(x, 0, 5, 1, 100, 10, 0);
        x.weeks(1);
        Check.due("carry stays 99: brought", x.look(0, 0, 2), 10);
        Check.due("carry stays 99: not brought", x.look(0, 1, 2), 0);
        Check.due("spoil stays 50", x.look(0, 0, 0), 5);
        Check.due("spoil of another thing", x.look(0, 5, 0), 0);
    }

    private static void days() {
        PriceEdict x = new PriceEdict();
        x.town(0);
        goods(x, 0, 0, 0, 1, 1, 0);
        Check.due("days(0)", x.days(0), 0);
        Check.due("days(100)", x.days(100), 100);
        Check.due("no WEEK goes by", x.look(0, 0, 2), 0);
        Check.dueIllegal("days(-1)", () -> x.days(-1));
        Check.dueIllegal("days(101)", () -> x.days(101));
        Check.due("TODAY stays", x.count(0), 100);
        for (int i = 2; i < 50; i++) {
            x.days(100);
        }
        Check.due("to 4995", x.days(95), 4995);
        Check.due("beyond 5000", x.days(6), 5000);
        Check.due("at 5000", x.days(100), 5000);
    }

    private static void weeks() {
        PriceEdict x = new PriceEdict();
        x.town(0);
        goods(x, 0, 0, 0, 1, 1, 0);
        Check.due("weeks(0)", x.weeks(0), 0);
        Check.due("no WEEK", x.look(0, 0, 2), 0);
        Check.due("weeks(50)", x.weeks(50), 350);
        Check.due("50 WEEKS", x.look(0, 0, 2), 50);
        Check.dueIllegal("weeks(-1)", () -> x.weeks(-1));
        Check.dueIllegal("weeks(51)", () -> x.weeks(51));
        Check.due("TODAY stays", x.count(0), 350);
        for (int i = 0; i < 46; i++) {
            x.days(100);
        }
        Check.due("to 4986", x.days(36), 4986);
        Check.due("two are left", x.weeks(5), 5000);
        Check.due("two went by", x.look(0, 0, 2), 52);
        Check.due("none is left", x.weeks(1), 5000);
        Check.due("none went by", x.look(0, 0, 2), 52);
        PriceEdict y = new PriceEdict();
        for (int i = 0; i < 50; i++) {
            y.days(i == 49 ? 94 : 100);
        }
        Check.due("a WEEK beyond 5000 is none", y.weeks(1), 4994);
    }

    private static void bringing() {
        PriceEdict x = new PriceEdict();
        x.town(19);
        goods(x, 0, 0, 10, 11, 5, 0);
        x.weeks(1);
        Check.due("carry 1, 19 miles", x.look(0, 0, 2), 5);
        goods(x, 0, 0, 10, 10, 5, 0);
        x.weeks(1);
        Check.due("carry is 1 at first", x.look(0, 0, 2), 5);
        // 7 times 19 by 10, rounded down, is 13: not 7 times the tens of miles
        x.carry(7);
        goods(x, 0, 0, 10, 22, 5, 0);
        x.weeks(1);
        Check.due("carry 7 at 22", x.look(0, 0, 2), 5);
        goods(x, 0, 0, 10, 23, 5, 0);
        x.weeks(1);
        Check.due("carry 7 at 23", x.look(0, 0, 2), 10);
        x.carry(0);
        goods(x, 0, 0, 10, 9, 5, 0);
        x.weeks(1);
        Check.due("carry 0 at 9", x.look(0, 0, 2), 10);
        goods(x, 0, 0, 10, 10, 5, 0);
        x.weeks(1);
        Check.due("carry 0 at 10", x.look(0, 0, 2), 15);
        Check.due("all to STOCK", x.look(0, 0, 0), 15);
        Check.edict(x, "cap 0 8;carriage 1");
        x.weeks(1);
        Check.due("a CAP of 9 keeps away", x.look(0, 0, 2), 15);
        Check.edict(x, "cap 0 9;carriage 1;credit 100");
        x.weeks(1);
        Check.due("a CAP of 10 does not", x.look(0, 0, 2), 20);
    }

    private static void hiding() {
        PriceEdict x = new PriceEdict();
        x.town(0);
        goods(x, 0, 0, 0, 10, 21, 0);
        Check.edict(x, "cap 0 9");
        x.weeks(1);
        dueLook("half of what came", x, 11, 10, 21, 0, 0, 0, 0, 9);
        x.weeks(1);
        dueLook("half again", x, 16, 26, 42, 0, 0, 0, 0, 9);
        Check.edict(x, "cap 0 10");
        goods(x, 0, 0, 0, 10, 0, 40);
        x.weeks(1);
        dueLook("all comes back and is sold", x, 2, 0, 42, 40, 0, 400, 4000, 10);
        goods(x, 0, 0, 0, 0, 0, 0);
        x.weeks(1);
        dueLook("without a BID", x, 2, 0, 42, 40, 0, 400, 4000, 0);
    }

    private static void thinning() {
        PriceEdict x = new PriceEdict();
        x.town(0);
        goods(x, 0, 0, 0, 30, 20, 7);
        Check.edict(x, "cap 0 29");
        x.weeks(1);
        dueLook("96 each", x, 3, 10, 20, 7, 0, 203, 672, 29);
        x.stone(0, 0, 0, 0, 0);
        Check.edict(x, "line 0 0");
        x.weeks(1);
        dueLook("nothing each", x, 5, 21, 40, 14, 0, 203, 672, 0);
        x.undo();
        x.weeks(1);
        dueLook("a hundred each", x, 39, 0, 60, 21, 0, 413, 1372, 30);
        goods(x, 0, 0, 0, 1, 0, 2);
        Check.edict(x, "line 0 0");
        x.weeks(1);
        dueLook("a BID of 1", x, 18, 19, 60, 23, 0, 413, 1372, 0);
    }

    private static void spoiling() {
        PriceEdict x = new PriceEdict();
        x.town(0);
        x.spoil(0, 1);
        goods(x, 0, 0, 0, 10, 22, 1);
        Check.edict(x, "cap 0 5");
        x.weeks(1);
        dueLook("each by itself, rounded up", x, 9, 10, 22, 1, 2, 5, 50, 5);
        x.spoil(0, 100);
        x.weeks(1);
        dueLook("all", x, 0, 0, 44, 2, 42, 10, 100, 5);
        x.spoil(0, 0);
        x.weeks(1);
        dueLook("nothing", x, 10, 11, 66, 3, 42, 15, 150, 5);
        x.spoil(0, 10);
        goods(x, 0, 0, 0, 5, 0, 1);
        x.weeks(1);
        dueLook("a tenth", x, 18, 0, 66, 4, 44, 20, 250, 5);
        x.spoil(1, 100);
        x.spoil(0, 0);
        x.weeks(1);
        Check.due("of another thing", x.look(0, 0, 4), 44);
        PriceEdict y = new PriceEdict();
        y.town(0);
        y.spoil(0, 1);
        goods(y, 0, 0, 0, 10, 1, 0);
        y.weeks(1);
        dueLook("a hundredth of one piece", y, 0, 0, 1, 0, 1);
        y.spoil(0, 50);
        goods(y, 0, 0, 0, 10, 1000, 0);
        y.weeks(1);
        dueLook("half of a thousand", y, 500, 0, 1001, 0, 501);
    }

    private static void goodsAnew() {
        PriceEdict x = new PriceEdict();
        x.town(0);
        goods(x, 0, 0, 0, 10, 9, 1);
        Check.edict(x, "cap 0 5");
        x.weeks(1);
        goods(x, 0, 0, 1, 20, 0, 0);
        dueLook("what is there stays", x, 4, 4, 9, 1, 0, 5, 50, 5);
    }

    private static void moneyGoesRound() {
        PriceEdict x = new PriceEdict();
        x.town(0);
        goods(x, 0, 0, 0, 9999, 1000, 1000);
        for (int i = 0; i < 5; i++) {
            x.weeks(50);
        }
        Check.due("money of 250 WEEKS", x.look(0, 0, 5), (int) (250L * 1000 * 9999));
        Check.due("weight of 250 WEEKS", x.look(0, 0, 6), 25000000);
    }

    private static void eachTownAndThing() {
        PriceEdict x = new PriceEdict();
        for (int town = 0; town < 8; town++) {
            x.town(0);
            for (int thing = 0; thing < 6; thing++) {
                goods(x, town, thing, 0, 100, 10 * town + thing, 0);
            }
        }
        x.weeks(2);
        for (int town = 0; town < 8; town++) {
            for (int thing = 0; thing < 6; thing++) {
                Check.due("stock of " + town + ", " + thing, x.look(town, thing, 0), 2 * (10 * town + thing));
            }
        }
        Check.due("STOCK of all", x.count(6), 3600);
        Check.due("HIDDEN of all", x.count(7), 0);
    }

    private static void lineOfTheWeek() {
        PriceEdict x = new PriceEdict();
        x.town(70);
        goods(x, 0, 0, 0, 50, 0, 0);
        Check.edict(x, "line 0 3");
        x.stone(3, 0, 0, 4, 9);
        Check.due("not heard yet", x.look(0, 0, 7), 50);
        x.days(6);
        Check.due("a day ahead", x.look(0, 0, 7), 50);
        x.days(1);
        Check.due("heard", x.look(0, 0, 7), 49);
        x.strike(0);
        Check.due("struck out TODAY", x.look(0, 0, 7), 50);
        PriceEdict y = new PriceEdict();
        y.town(70);
        goods(y, 0, 0, 0, 50, 10, 0);
        Check.edict(y, "cap 0 49");
        y.weeks(1);
        Check.due("a WEEK's day is its last", y.look(0, 0, 1), 5);
    }

    private static void looks() {
        PriceEdict x = new PriceEdict();
        Check.dueIndex("look without TOWNS", () -> x.look(0, 0, 9));
        x.town(0);
        dueLook("all 0 at first", x, 0, 0, 0, 0, 0, 0, 0, 0);
        Check.dueIndex("look(1)", () -> x.look(1, 0, 8));
        Check.dueIndex("look(-1)", () -> x.look(-1, 0, 0));
        Check.dueIndex("look thing 6", () -> x.look(0, 6, 8));
        Check.dueIndex("look thing -1", () -> x.look(0, -1, 0));
        Check.dueNoElement("look what 8", () -> x.look(0, 0, 8));
        Check.dueNoElement("look what -1", () -> x.look(0, 0, -1));
    }

    private static void buying() {
        PriceEdict x = new PriceEdict();
        x.town(0);
        goods(x, 0, 0, 0, 7, 100, 0);
        x.weeks(1);
        Check.due("6 by 7", x.buys(0, 0, 6), 0);
        Check.due("7 by 7", x.buys(0, 0, 7), 1);
        Check.due("20 by 7", x.buys(0, 0, 20), 2);
        Check.due("699 by 7", x.buys(0, 0, 699), 99);
        Check.due("STOCK", x.buys(0, 0, 701), 100);
        Check.due("100000 by 7", x.buys(0, 0, 100000), 100);
        Check.due("no PAY", x.buys(0, 0, 0), 0);
        Check.edict(x, "cap 0 3;credit 100");
        Check.due("20 by the CAP", x.buys(0, 0, 20), 6);
        Check.edict(x, "cap 0 1");
        Check.due("PRICE 1", x.buys(0, 0, 20), 20);
        x.stone(0, 0, 0, 0, 0);
        Check.edict(x, "line 0 0");
        Check.due("PRICE 0", x.buys(0, 0, 0), 100);
        Check.due("it only tells", x.look(0, 0, 0), 100);
        Check.dueIndex("buys(1)", () -> x.buys(1, 0, -1));
        Check.dueIndex("buys thing 6", () -> x.buys(0, 6, -1));
        Check.dueIndex("buys thing -1", () -> x.buys(0, -1, 0));
        Check.dueIllegal("PAY -1", () -> x.buys(0, 0, -1));
        Check.dueIllegal("PAY 100001", () -> x.buys(0, 0, 100001));
    }
}
