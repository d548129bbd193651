/** Promises 2 and 3: feed, end. */
public final class TapeTest {
    private static final int BLANKS = 0x20202020;

    public static void main(String[] args) {
        highestByteFirst();
        howManyItHas();
        mostBytes();
        noneComeBeyond();
        fedBehindAnEnd();
        everyByteIsKept();
        firstBytesAlone();
        fewerThanAsked();
        belowNothing();
        usedUpTape();
        Check.end();
    }

    private static int feedBlanks(PriceEdict x) {
        return x.feed(BLANKS, BLANKS, BLANKS, BLANKS, BLANKS);
    }

    private static PriceEdict withBlanks(int feeds) {
        PriceEdict x = new PriceEdict();
        for (int i = 0; i < feeds; i++) {
            feedBlanks(x);
        }
        return x;
    }

    private static void highestByteFirst() {
        Check.sentence("Twenty bytes come behind the TAPE, of each number the highest first");
        PriceEdict x = new PriceEdict();
        x.town(0);
        // "cap " "0 12" "34; " "cap " "1 7 "
        x.feed(0x63617020, 0x30203132, 0x33343b20, 0x63617020, 0x31203720);
        Check.due("edict of five numbers", x.edict(), 0);
        Check.due("cap 0", x.cap(0, 0, false, 0), 1234);
        Check.due("cap 1", x.cap(0, 1, false, 0), 7);
        // A wrong byte in each of the twenty places stands where its number and its rank say.
        for (int place = 0; place < 20; place++) {
            int[] n = {BLANKS, BLANKS, BLANKS, BLANKS, BLANKS};
            n[place / 4] ^= 0x80 << 8 * (3 - place % 4);
            x.feed(n[0], n[1], n[2], n[3], n[4]);
            Check.dueIllegal("edict with a wrong byte " + place, x::edict);
            Check.due("fault", x.fault(), place);
        }
    }

    private static void howManyItHas() {
        Check.sentence("how many it has");
        PriceEdict x = new PriceEdict();
        for (int i = 1; i <= 20; i++) {
            Check.due("feed " + i, feedBlanks(x), 20 * i);
        }
    }

    private static void mostBytes() {
        Check.sentence("NONE, and none come, if it would have more than 400");
        PriceEdict x = withBlanks(19);
        Check.due("380 and 20", x.feed(0, 0, 0, 0, 0), 400);
        PriceEdict y = withBlanks(20);
        y.end(381);
        Check.due("381 and 20", y.feed(0, 0, 0, 0, 0), PriceEdict.NONE);
        y.end(380);
        Check.due("380 and 20 behind a cut", y.feed(0, 0, 0, 0, 0), 400);
    }

    private static void noneComeBeyond() {
        Check.sentence("NONE, and none come, if it would have more than 400");
        PriceEdict x = withBlanks(20);
        Check.due("400 and 20", x.feed(-1, -1, -1, -1, -1), PriceEdict.NONE);
        Check.due("not one more", x.end(401), false);
        Check.due("not one less", x.end(400), true);
        Check.dueIllegal("edict of 400 blanks", x::edict);
        Check.due("all are blanks still", x.fault(), 400);
        PriceEdict y = withBlanks(20);
        y.end(399);
        Check.due("399 and 20", y.feed(-1, -1, -1, -1, -1), PriceEdict.NONE);
        Check.due("not the one for which there is room", y.end(400), false);
        Check.dueIllegal("edict of 399 blanks", y::edict);
        Check.due("all 399 are blanks still", y.fault(), 399);
    }

    private static void fedBehindAnEnd() {
        Check.sentence("Twenty bytes come behind the TAPE");
        PriceEdict x = new PriceEdict();
        x.town(0);
        // "cap 0 1" and signs that end(7) takes away again
        x.feed(0x63617020, 0x30203141, -1, -1, -1);
        x.end(7);
        Check.due("feed behind 7", x.feed(0x32202020, BLANKS, BLANKS, BLANKS, BLANKS), 27);
        Check.due("edict", x.edict(), 0);
        Check.due("cap 0", x.cap(0, 0, false, 0), 12);
    }

    private static void everyByteIsKept() {
        Check.sentence("Twenty bytes come behind the TAPE");
        for (int sign = 0; sign < 256; sign++) {
            PriceEdict x = new PriceEdict();
            // "free1" with a sign behind it: blanks may follow, a digit makes it 10 or more
            x.feed(0x66726565, 0x31002020 | sign << 16, BLANKS, BLANKS, BLANKS);
            if (sign == ' ') {
                Check.due("edict with a blank", x.edict(), 0);
            } else {
                Check.dueIllegal("edict with " + sign, x::edict);
                Check.due("fault of " + sign, x.fault(), sign == ';' ? 20 : sign >= '0' && sign <= '9' ? 4 : 5);
            }
        }
    }

    private static void firstBytesAlone() {
        Check.sentence("The TAPE has its first n bytes alone: true");
        PriceEdict x = withBlanks(2);
        Check.due("all 40", x.end(40), true);
        Check.due("feed behind all", feedBlanks(x), 60);
        Check.due("59 of 60", x.end(59), true);
        Check.due("the last is gone", x.end(60), false);
        Check.due("one", x.end(1), true);
        Check.due("feed behind one", feedBlanks(x), 21);
        Check.due("none", x.end(0), true);
        Check.due("none of none", x.end(0), true);
        Check.due("feed behind none", feedBlanks(x), 20);
        PriceEdict y = new PriceEdict();
        y.town(0);
        // "cap 0 987" of which end leaves "cap 0 98"
        y.feed(0x63617020, 0x30203938, 0x37202020, 0, 0);
        y.end(8);
        Check.due("edict", y.edict(), 0);
        Check.due("the first eight", y.cap(0, 0, false, 0), 98);
    }

    private static void fewerThanAsked() {
        Check.sentence("false, and nothing happens, if it has fewer, or n is below 0");
        PriceEdict x = withBlanks(1);
        Check.due("21 of 20", x.end(21), false);
        Check.due("the highest number", x.end(Integer.MAX_VALUE), false);
        Check.due("nothing happened", feedBlanks(x), 40);
        PriceEdict empty = new PriceEdict();
        Check.due("1 of none", empty.end(1), false);
        Check.due("none of none", empty.end(0), true);
    }

    private static void belowNothing() {
        Check.sentence("false, and nothing happens, if it has fewer, or n is below 0");
        PriceEdict x = withBlanks(1);
        Check.due("-1 of 20", x.end(-1), false);
        Check.due("the lowest number", x.end(Integer.MIN_VALUE), false);
        Check.due("nothing happened", feedBlanks(x), 40);
        Check.due("-1 of none", new PriceEdict().end(-1), false);
    }

    private static void usedUpTape() {
        Check.sentence("Uses the TAPE up");
        PriceEdict x = withBlanks(20);
        Check.dueIllegal("edict of 400 blanks", x::edict);
        Check.due("nothing is left", x.end(1), false);
        for (int i = 1; i <= 20; i++) {
            Check.due("room for feed " + i, feedBlanks(x), 20 * i);
        }
    }
}
