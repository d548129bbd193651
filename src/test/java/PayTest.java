/** Promise 21: buys. */
public final class PayTest {
    public static void main(String[] args) {
        roundedDown();
        notMoreThanStock();
        priceOfNothing();
        byTheCap();
        onlyTold();
        payOutOfBounds();
        noSuchTownOrThing();
        Check.end();
    }

    /** One TOWN with a STOCK of THING 0, asked for at this BID. */
    private static PriceEdict stocked(int stock, int bid) {
        PriceEdict x = new PriceEdict();
        x.town(0);
        x.goods(0, 0, 0, bid, stock, 0);
        x.weeks(1);
        return x;
    }

    private static void roundedDown() {
        Check.sentence("PAY by PRICE as above, rounded down");
        PriceEdict x = stocked(100, 7);
        Check.due("0 by 7", x.buys(0, 0, 0), 0);
        Check.due("6 by 7", x.buys(0, 0, 6), 0);
        Check.due("7 by 7", x.buys(0, 0, 7), 1);
        Check.due("13 by 7", x.buys(0, 0, 13), 1);
        Check.due("14 by 7", x.buys(0, 0, 14), 2);
        PriceEdict dear = stocked(100, 9999);
        Check.due("9998 by 9999", dear.buys(0, 0, 9998), 0);
        Check.due("100000 by 9999", dear.buys(0, 0, 100000), 10);
    }

    private static void notMoreThanStock() {
        Check.sentence("but not more than STOCK");
        PriceEdict x = stocked(100, 7);
        Check.due("699 by 7", x.buys(0, 0, 699), 99);
        Check.due("700 by 7", x.buys(0, 0, 700), 100);
        Check.due("707 by 7", x.buys(0, 0, 707), 100);
        Check.due("100000 by 7", x.buys(0, 0, 100000), 100);
        Check.due("no STOCK", stocked(0, 7).buys(0, 0, 100000), 0);
    }

    private static void priceOfNothing() {
        Check.sentence("STOCK, if PRICE is 0");
        PriceEdict x = stocked(100, 7);
        x.stone(0, 0, 0, 0, 0);
        Check.edict(x, "line 0 0");
        Check.due("by a CAP of 0", x.buys(0, 0, 0), 100);
        Check.due("for more", x.buys(0, 0, 100000), 100);
        Check.due("by a BID of 0", stocked(50, 0).buys(0, 0, 0), 50);
        Check.due("of a THING that was never told", stocked(50, 0).buys(0, 5, 9), 0);
        Check.due("PRICE 1", stocked(50, 1).buys(0, 0, 0), 0);
    }

    private static void byTheCap() {
        Check.sentence("BUYS in a TOWN of a THING on TODAY: PAY by PRICE as above");
        PriceEdict x = stocked(100, 7);
        Check.edict(x, "cap 0 3;credit 100");
        Check.due("20 by 3", x.buys(0, 0, 20), 6);
        x.days(1);
        x.undo();
        Check.due("undone TODAY", x.buys(0, 0, 20), 2);
    }

    private static void onlyTold() {
        Check.sentence("What PAY BUYS.");
        PriceEdict x = stocked(100, 7);
        Check.due("once", x.buys(0, 0, 70), 10);
        Check.due("as often as asked", x.buys(0, 0, 70), 10);
        Check.due("STOCK stays", x.look(0, 0, 0), 100);
        Check.due("nothing is SOLD", x.look(0, 0, 3), 0);
        Check.due("HIDDEN is not for sale", hiddenHalf().buys(0, 0, 100000), 50);
    }

    private static PriceEdict hiddenHalf() {
        PriceEdict x = new PriceEdict();
        x.town(0);
        x.goods(0, 0, 0, 7, 100, 0);
        Check.edict(x, "cap 0 6");
        x.weeks(1);
        return x;
    }

    private static void payOutOfBounds() {
        Check.sentence("PAY (0 to 100000) BUYS in a TOWN of a THING");
        PriceEdict x = stocked(100, 9999);
        Check.due("0", x.buys(0, 0, 0), 0);
        Check.due("100000", x.buys(0, 0, 100000), 10);
        Check.sentence("IllegalArgumentException: PAY is none.");
        for (int pay : new int[] {Integer.MIN_VALUE, -1, 100001, Integer.MAX_VALUE}) {
            Check.dueIllegal("PAY " + pay, () -> x.buys(0, 0, pay));
        }
        Check.dueIllegal("PAY -1 at PRICE 0", () -> x.buys(0, 1, -1));
        Check.dueIndex("in no TOWN, and no PAY", () -> x.buys(1, 0, -1));
        Check.dueIndex("of no THING, and no PAY", () -> x.buys(0, 6, -1));
    }

    private static void noSuchTownOrThing() {
        Check.sentence("IndexOutOfBoundsException: there is no such LINE, STONE, THING, TOWN, EDICT.");
        PriceEdict x = new PriceEdict();
        Check.dueIndex("buys without TOWNS", () -> x.buys(0, 0, 0));
        x.town(0);
        for (int n : new int[] {Integer.MIN_VALUE, -1, 6, 8, Integer.MAX_VALUE}) {
            Check.dueIndex("buys in " + n, () -> x.buys(n, 0, 0));
            Check.dueIndex("buys of " + n, () -> x.buys(0, n, 0));
        }
        Check.dueIndex("buys in 1 of one", () -> x.buys(1, 0, 0));
        Check.due("THING 5", x.buys(0, 5, 0), 0);
    }
}
