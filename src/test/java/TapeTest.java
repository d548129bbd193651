/** Promises 2 and 3: feed, end. */
public final class TapeTest {
    public static void main(String[] args) {
        feedCounts();
        feedOrder();
        feedBehindTheEnd();
        ends();
        Check.end();
    }

    private static void feedCounts() {
        PriceEdict x = new PriceEdict();
        for (int i = 1; i <= 20; i++) {
            Check.due("feed " + i, x.feed(0x20202020, 0x20202020, 0x20202020, 0x20202020, 0x20202020), 20 * i);
        }
        Check.due("feed beyond 400", x.feed(1, 2, 3, 4, 5), PriceEdict.NONE);
        Check.due("400 bytes stay", x.end(400), true);
        Check.dueIllegal("edict of 400 blanks", x::edict);
        Check.due("fault of 400 blanks", x.fault(), 400);
        Check.due("feed behind a used tape", x.feed(0, 0, 0, 0, 0), 20);
        for (int i = 2; i <= 20; i++) {
            x.feed(0, 0, 0, 0, 0);
        }
        x.end(381);
        Check.due("feed to 401", x.feed(0, 0, 0, 0, 0), PriceEdict.NONE);
        Check.due("none came", x.end(382), false);
        x.end(380);
        Check.due("feed to 400", x.feed(0, 0, 0, 0, 0), 400);
    }

    private static void feedOrder() {
        PriceEdict x = new PriceEdict();
        x.town(0);
        // "cap " "0 12" "34; " "cap " "1 7 "
        x.feed(0x63617020, 0x30203132, 0x33343b20, 0x63617020, 0x31203720);
        Check.due("edict of five numbers", x.edict(), 0);
        Check.due("cap 0", x.cap(0, 0, false, 0), 1234);
        Check.due("cap 1", x.cap(0, 1, false, 0), 7);
    }

    private static void feedBehindTheEnd() {
        PriceEdict x = new PriceEdict();
        x.town(0);
        // "cap 0 1" and signs that end(7) takes away again
        x.feed(0x63617020, 0x30203141, 0xffffffff, 0xffffffff, 0xffffffff);
        x.end(7);
        // "2               "
        Check.due("feed behind 7", x.feed(0x32202020, 0x20202020, 0x20202020, 0x20202020, 0x20202020), 27);
        Check.due("edict", x.edict(), 0);
        Check.due("cap 0", x.cap(0, 0, false, 0), 12);
        x.feed(0xffffffff, 0, 0, 0, 0);
        Check.dueIllegal("edict of a sign 255", x::edict);
        Check.due("its fault", x.fault(), 0);
    }

    private static void ends() {
        PriceEdict x = new PriceEdict();
        x.feed(0, 0, 0, 0, 0);
        Check.due("end(21)", x.end(21), false);
        Check.due("end(-1)", x.end(-1), false);
        Check.due("end(lowest)", x.end(Integer.MIN_VALUE), false);
        Check.due("end(highest)", x.end(Integer.MAX_VALUE), false);
        Check.due("end(20)", x.end(20), true);
        Check.due("end(5)", x.end(5), true);
        Check.due("end(6) of 5", x.end(6), false);
        Check.due("feed behind 5", x.feed(0, 0, 0, 0, 0), 25);
        Check.due("end(0)", x.end(0), true);
        Check.due("end(1) of 0", x.end(1), false);
        Check.due("end(0) of 0", x.end(0), true);
    }
}
