import java.util.NoSuchElementException;

/**
 * An edict of highest prices: stones that tell its list, the edict's own text, the towns that hear
 * of it, and their markets. The document ../shared/DOC.md tells its promises; words in capitals
 * here are the document's.
 */
public final class PriceEdict {
    public static final int NONE = -1;

    private static final int LINES = 30;
    private static final int MOST_STONES = 60;
    private static final int PLACES = 4;
    private static final int DIGITS = 10;
    private static final int TOP_PRICE = 9999;
    private static final int THINGS = 6;
    private static final int MOST_TOWNS = 8;
    private static final int MOST_EDICTS = 20;
    private static final int MOST_BYTES = 400;
    private static final int FED_BYTES = 20;
    private static final int LAST_DAY = 5000;
    private static final int WEEK_DAYS = 7;

    private final Tape tape = new Tape();
    private final Stones stones = new Stones();
    // One row more than may be told: a text is read into the next row, and found wrong or not,
    // before it is asked whether there is room for one more EDICT.
    private final Decree[] decrees = new Decree[MOST_EDICTS + 1];
    private final News news = new News();
    private final Town[] towns = new Town[MOST_TOWNS];
    private final int[] spoilRates = new int[THINGS];
    private int decreeCount = 0;
    private int townCount = 0;
    private int carryRate = 1;
    private int today = 0;
    private int wrongByte = NONE;

    public PriceEdict() {
        for (int i = 0; i < decrees.length; i++) {
            decrees[i] = new Decree();
        }
        for (int i = 0; i < towns.length; i++) {
            towns[i] = new Town();
        }
    }

    // ---- the TAPE

    public int feed(int a, int b, int c, int d, int e) {
        if (tape.length + FED_BYTES > MOST_BYTES) {
            return NONE;
        }
        tape.append(a);
        tape.append(b);
        tape.append(c);
        tape.append(d);
        tape.append(e);
        return tape.length;
    }

    public boolean end(int n) {
        if (n < 0 || n > tape.length) {
            return false;
        }
        tape.length = n;
        return true;
    }

    // ---- STONES and HABITS

    public int stone(int line, int a, int b, int c, int d)
            throws IndexOutOfBoundsException, IllegalArgumentException, UnsupportedOperationException {
        needLine(line);
        needWithin(a, NONE, DIGITS - 1);
        needWithin(b, NONE, DIGITS - 1);
        needWithin(c, NONE, DIGITS - 1);
        needWithin(d, NONE, DIGITS - 1);
        if (stones.size >= MOST_STONES) {
            throw new UnsupportedOperationException("there are 60 STONES");
        }
        return stones.lay(line, today, a, b, c, d);
    }

    public boolean strike(int stone) throws IndexOutOfBoundsException {
        if (stone < 0 || stone >= stones.size) {
            throw new IndexOutOfBoundsException("there is no such STONE");
        }
        return stones.strikeOut(stone, today);
    }

    public boolean habit(int a, int b) throws IllegalArgumentException {
        needWithin(a, 0, DIGITS - 1);
        needWithin(b, 0, DIGITS - 1);
        if (a == b) {
            throw new IllegalArgumentException("the figures are one");
        }
        return stones.confuse(a, b);
    }

    public int agree(int line, int day, int what) throws IndexOutOfBoundsException, NoSuchElementException {
        needLine(line);
        needWhat(what, 3);
        stones.compare(line, day);
        switch (what) {
            case 0:
                return stones.agreeing();
            case 1:
                return stones.least();
            case 2:
                return stones.greatest();
            default:
                return stones.agreeing() == 1 ? 1 : 0;
        }
    }

    // ---- THE EDICT, its UNDOING, and what a TOWN HEARS

    public int edict() throws IllegalArgumentException, UnsupportedOperationException {
        wrongByte = tape.readInto(decrees[Math.min(decreeCount, MOST_EDICTS)]);
        tape.length = 0;
        if (wrongByte != NONE) {
            throw new IllegalArgumentException("the text is wrong");
        }
        if (decreeCount >= MOST_EDICTS) {
            throw new UnsupportedOperationException("there are 20 EDICTS");
        }
        int number = decreeCount;
        news.tell(today, number);
        decreeCount++;
        return number;
    }

    public int fault() {
        return wrongByte;
    }

    public boolean undo() {
        if (news.latest() == NONE) {
            return false;
        }
        news.tell(today, NONE);
        return true;
    }

    public int force(int town, int day) throws IndexOutOfBoundsException {
        needTown(town);
        return inForce(town, day);
    }

    public int cap(int town, int thing, boolean credit, int day) throws IndexOutOfBoundsException {
        needTown(town);
        needThing(thing);
        return highest(town, thing, credit, day);
    }

    public int judge(int town, int thing, int price, boolean credit, int day)
            throws IndexOutOfBoundsException, IllegalArgumentException {
        needTown(town);
        needThing(thing);
        if (price < 0) {
            throw new IllegalArgumentException("the price is below 0");
        }
        int highest = highest(town, thing, credit, day);
        return highest != NONE && price > highest ? 1 : 0;
    }

    // ---- TOWNS and their GOODS

    public int town(int miles) throws IllegalArgumentException, UnsupportedOperationException {
        needWithin(miles, 0, 2000);
        if (townCount >= MOST_TOWNS) {
            throw new UnsupportedOperationException("there are 8 TOWNS");
        }
        int number = townCount;
        towns[number].miles = miles;
        townCount++;
        return number;
    }

    public void goods(int town, int thing, int cost, int bid, int supply, int want)
            throws IndexOutOfBoundsException, IllegalArgumentException {
        needTown(town);
        needThing(thing);
        needWithin(cost, 0, TOP_PRICE);
        needWithin(bid, 0, TOP_PRICE);
        needWithin(supply, 0, 1000);
        needWithin(want, 0, 1000);
        towns[town].wares[thing].arrange(cost, bid, supply, want);
    }

    public void spoil(int thing, int n) throws IndexOutOfBoundsException, IllegalArgumentException {
        needThing(thing);
        needWithin(n, 0, 100);
        spoilRates[thing] = n;
    }

    public void carry(int n) throws IllegalArgumentException {
        needWithin(n, 0, 99);
        carryRate = n;
    }

    public int weeks(int n) throws IllegalArgumentException {
        needWithin(n, 0, 50);
        for (int i = 0; i < n && today + WEEK_DAYS <= LAST_DAY; i++) {
            today += WEEK_DAYS;
            holdMarkets();
        }
        return today;
    }

    public int days(int n) throws IllegalArgumentException {
        needWithin(n, 0, 100);
        today = Math.min(today + n, LAST_DAY);
        return today;
    }

    public int look(int town, int thing, int what) throws IndexOutOfBoundsException, NoSuchElementException {
        needTown(town);
        needThing(thing);
        needWhat(what, 7);
        Wares wares = towns[town].wares[thing];
        switch (what) {
            case 0:
                return wares.stock;
            case 1:
                return wares.hidden;
            case 2:
                return wares.brought;
            case 3:
                return wares.sold;
            case 4:
                return wares.spoilt;
            case 5:
                return wares.paid;
            case 6:
                return wares.weight;
            default:
                return priceToday(town, thing);
        }
    }

    public int buys(int town, int thing, int pay) throws IndexOutOfBoundsException, IllegalArgumentException {
        needTown(town);
        needThing(thing);
        needWithin(pay, 0, 100000);
        int stock = towns[town].wares[thing].stock;
        int price = priceToday(town, thing);
        return price > 0 ? Math.min(pay / price, stock) : stock;
    }

    public int count(int what) {
        switch (what) {
            case 0:
                return today;
            case 1:
                return stones.size;
            case 2:
                return stones.size - stones.struckOut;
            case 3:
                return stones.habits;
            case 4:
                return decreeCount;
            case 5:
                return townCount;
            case 6:
                return stockOfAll();
            case 7:
                return hiddenOfAll();
            case 8:
                return settledLines();
            default:
                return NONE;
        }
    }

    // ---- what the calls above share

    private static void needLine(int line) {
        if (line < 0 || line >= LINES) {
            throw new IndexOutOfBoundsException("there is no such LINE");
        }
    }

    private static void needThing(int thing) {
        if (thing < 0 || thing >= THINGS) {
            throw new IndexOutOfBoundsException("there is no such THING");
        }
    }

    private void needTown(int town) {
        if (town < 0 || town >= townCount) {
            throw new IndexOutOfBoundsException("there is no such TOWN");
        }
    }

    private static void needWithin(int n, int low, int high) {
        if (n < low || n > high) {
            throw new IllegalArgumentException("a number is out of its bounds");
        }
    }

    private static void needWhat(int what, int last) {
        if (what < 0 || what > last) {
            throw new NoSuchElementException("there is no such what");
        }
    }

    private int inForce(int town, int day) {
        return news.heard(towns[town].tensOfMiles(), day);
    }

    /** CAP, or NONE. */
    private int highest(int town, int thing, boolean credit, int day) {
        int number = inForce(town, day);
        if (number < 0 || number >= decreeCount) {
            return NONE;
        }
        Decree decree = decrees[number];
        int told = decree.frees(town) ? NONE : toldCap(decree, thing, day);
        if (told == NONE) {
            return NONE;
        }
        int there = told + decree.carriage * towns[town].tensOfMiles();
        return credit ? there + there * decree.credit / 100 : there;
    }

    /** What a Decree tells of a THING by itself, or NONE. */
    private int toldCap(Decree decree, int thing, int day) {
        int line = decree.lines[thing];
        if (line == NONE) {
            return decree.caps[thing];
        }
        stones.compare(line, day);
        return stones.agreeing() == 0 ? TOP_PRICE : stones.greatest();
    }

    private int priceToday(int town, int thing) {
        int bid = towns[town].wares[thing].bid;
        int highest = highest(town, thing, false, today);
        return highest == NONE ? bid : Math.min(bid, highest);
    }

    private void holdMarkets() {
        for (int town = 0; town < townCount; town++) {
            int carrying = carryRate * towns[town].miles / 10;
            for (int thing = 0; thing < THINGS; thing++) {
                int price = priceToday(town, thing);
                towns[town].wares[thing].passWeek(price, carrying, spoilRates[thing]);
            }
        }
    }

    private int stockOfAll() {
        int sum = 0;
        for (int town = 0; town < townCount; town++) {
            for (int thing = 0; thing < THINGS; thing++) {
                sum += towns[town].wares[thing].stock;
            }
        }
        return sum;
    }

    private int hiddenOfAll() {
        int sum = 0;
        for (int town = 0; town < townCount; town++) {
            for (int thing = 0; thing < THINGS; thing++) {
                sum += towns[town].wares[thing].hidden;
            }
        }
        return sum;
    }

    /** LINES of which just one price AGREES TODAY. */
    private int settledLines() {
        int settled = 0;
        for (int line = 0; line < LINES; line++) {
            stones.compare(line, today);
            if (stones.agreeing() == 1) {
                settled++;
            }
        }
        return settled;
    }

    /**
     * STONES and HABITS. The prices that AGREE are never listed: each STONE binds each place by
     * itself, so the figures that are left for the four places tell them all.
     */
    private static final class Stones {
        private final int[] lines = new int[MOST_STONES];
        private final int[] figures = new int[MOST_STONES * PLACES];
        private final int[] found = new int[MOST_STONES];
        private final int[] struck = new int[MOST_STONES];
        // Of each figure: a bit for each figure of a price that may stand for it.
        private final int[] readings = new int[DIGITS];
        // What compare() left: of each place a bit for each figure that AGREES.
        private final int[] left = new int[PLACES];
        int size = 0;
        int struckOut = 0;
        int habits = 0;

        Stones() {
            for (int figure = 0; figure < DIGITS; figure++) {
                readings[figure] = 1 << figure;
            }
        }

        /** One more STONE: its number; NONE if there is no room. */
        int lay(int line, int day, int a, int b, int c, int d) {
            if (size >= MOST_STONES) {
                return NONE;
            }
            int number = size;
            lines[number] = line;
            found[number] = day;
            struck[number] = NONE;
            int at = number * PLACES;
            figures[at] = a;
            figures[at + 1] = b;
            figures[at + 2] = c;
            figures[at + 3] = d;
            size++;
            return number;
        }

        /** Whether it was not struck out; the first day on which it was is kept. */
        boolean strikeOut(int stone, int day) {
            if (struck[stone] != NONE) {
                return false;
            }
            struck[stone] = day;
            struckOut++;
            return true;
        }

        /** Two figures are misread for one another from now on: whether they were not. */
        boolean confuse(int a, int b) {
            if ((readings[a] >> b & 1) == 1) {
                return false;
            }
            readings[a] |= 1 << b;
            readings[b] |= 1 << a;
            habits++;
            return true;
        }

        /** Sets what agreeing(), least() and greatest() tell of. */
        void compare(int line, int day) {
            for (int place = 0; place < PLACES; place++) {
                left[place] = (1 << DIGITS) - 1;
            }
            for (int stone = 0; stone < size; stone++) {
                if (lines[stone] == line && isKnown(stone, day)) {
                    narrow(stone);
                }
            }
        }

        private boolean isKnown(int stone, int day) {
            return day >= found[stone] && (struck[stone] == NONE || day < struck[stone]);
        }

        private void narrow(int stone) {
            for (int place = 0; place < PLACES; place++) {
                int figure = figures[stone * PLACES + place];
                if (figure >= 0 && figure < DIGITS) {
                    left[place] &= readings[figure];
                }
            }
        }

        int agreeing() {
            int prices = 1;
            for (int place = 0; place < PLACES; place++) {
                prices *= Integer.bitCount(left[place]);
            }
            return prices;
        }

        int least() {
            if (agreeing() == 0) {
                return NONE;
            }
            int price = 0;
            for (int place = 0; place < PLACES; place++) {
                price = price * 10 + lowestFigure(left[place]);
            }
            return price;
        }

        int greatest() {
            if (agreeing() == 0) {
                return NONE;
            }
            int price = 0;
            for (int place = 0; place < PLACES; place++) {
                price = price * 10 + highestFigure(left[place]);
            }
            return price;
        }

        private static int lowestFigure(int bits) {
            int figure = 0;
            while (figure < DIGITS - 1 && (bits >> figure & 1) == 0) {
                figure++;
            }
            return figure;
        }

        private static int highestFigure(int bits) {
            int figure = DIGITS - 1;
            while (figure > 0 && (bits >> figure & 1) == 0) {
                figure--;
            }
            return figure;
        }
    }

    /** What one EDICT tells. */
    private static final class Decree {
        // Of each THING at most one of the two is told: the later CLAUSE takes the other's place.
        final int[] caps = new int[THINGS];
        final int[] lines = new int[THINGS];
        int carriage = 0;
        int credit = 0;
        private int freeTowns = 0;

        void clear() {
            for (int thing = 0; thing < THINGS; thing++) {
                caps[thing] = NONE;
                lines[thing] = NONE;
            }
            carriage = 0;
            credit = 0;
            freeTowns = 0;
        }

        void capByPrice(int thing, int price) {
            if (thing >= 0 && thing < THINGS) {
                caps[thing] = price;
                lines[thing] = NONE;
            }
        }

        void capByLine(int thing, int line) {
            if (thing >= 0 && thing < THINGS) {
                caps[thing] = NONE;
                lines[thing] = line;
            }
        }

        void setFree(int town) {
            freeTowns |= 1 << town;
        }

        boolean frees(int town) {
            return (freeTowns >> town & 1) == 1;
        }
    }

    /** The bytes that were fed and are not yet used up, and THE EDICT's text read from them. */
    private static final class Tape {
        private final byte[] bytes = new byte[MOST_BYTES];
        int length = 0;
        private int at = 0;
        // The first wrong byte; once it is set, nothing more is read.
        private int wrong = NONE;

        void append(int number) {
            for (int shift = 24; shift >= 0 && length < bytes.length; shift -= 8) {
                bytes[length] = (byte) (number >> shift);
                length++;
            }
        }

        /** The byte there, 0 to 255; NONE behind the end. */
        private int byteAt(int place) {
            return place >= 0 && place < length ? bytes[place] & 255 : NONE;
        }

        /** The first wrong byte, or NONE. */
        int readInto(Decree decree) {
            decree.clear();
            at = 0;
            wrong = NONE;
            boolean more = true;
            for (int clauses = 0; more && clauses < MOST_BYTES; clauses++) {
                readClause(decree);
                more = readSemicolon();
            }
            return wrong;
        }

        private void readClause(Decree decree) {
            skipBlanks();
            int begin = at;
            skipWord();
            if (isWord(begin, "cap")) {
                readCap(decree);
            } else if (isWord(begin, "line")) {
                readLine(decree);
            } else if (isWord(begin, "carriage")) {
                readCarriage(decree);
            } else if (isWord(begin, "credit")) {
                readCredit(decree);
            } else if (isWord(begin, "free")) {
                readFree(decree);
            } else {
                wrong = begin;
            }
        }

        private void readCap(Decree decree) {
            int thing = readNumber(0, THINGS - 1);
            int price = readNumber(1, TOP_PRICE);
            if (wrong == NONE) {
                decree.capByPrice(thing, price);
            }
        }

        private void readLine(Decree decree) {
            int thing = readNumber(0, THINGS - 1);
            int line = readNumber(0, LINES - 1);
            if (wrong == NONE) {
                decree.capByLine(thing, line);
            }
        }

        private void readCarriage(Decree decree) {
            int carriage = readNumber(0, 99);
            if (wrong == NONE) {
                decree.carriage = carriage;
            }
        }

        private void readCredit(Decree decree) {
            int credit = readNumber(0, 100);
            if (wrong == NONE) {
                decree.credit = credit;
            }
        }

        private void readFree(Decree decree) {
            int town = readNumber(0, MOST_TOWNS - 1);
            if (wrong == NONE) {
                decree.setFree(town);
            }
        }

        private int readNumber(int low, int high) {
            if (wrong != NONE) {
                return NONE;
            }
            skipBlanks();
            int begin = at;
            int value = 0;
            while (at < length && isBetween('0', '9')) {
                value = value * 10 + byteAt(at) - '0';
                at++;
            }
            int digits = at - begin;
            if (digits < 1 || digits > 4 || value < low || value > high) {
                wrong = begin;
                return NONE;
            }
            return value;
        }

        /** Whether another CLAUSE must come. */
        private boolean readSemicolon() {
            if (wrong != NONE) {
                return false;
            }
            skipBlanks();
            if (at >= length) {
                return false;
            }
            if (byteAt(at) != ';') {
                wrong = at;
                return false;
            }
            at++;
            return true;
        }

        private void skipBlanks() {
            while (at < length && byteAt(at) == ' ') {
                at++;
            }
        }

        private void skipWord() {
            while (at < length && isBetween('a', 'z')) {
                at++;
            }
        }

        private boolean isBetween(char low, char high) {
            int sign = byteAt(at);
            return sign >= low && sign <= high;
        }

        /** Whether what was just read from begin on is this word. */
        private boolean isWord(int begin, String word) {
            if (at - begin != word.length()) {
                return false;
            }
            for (int i = 0; i < word.length(); i++) {
                if (byteAt(begin + i) != word.charAt(i)) {
                    return false;
                }
            }
            return true;
        }
    }

    /** What was told, and on which day: the number of an EDICT, or NONE for an UNDOING. */
    private static final class News {
        // Each EDICT is undone at most once before the next.
        private final int[] toldOn = new int[MOST_EDICTS * 2];
        private final int[] told = new int[MOST_EDICTS * 2];
        private int size = 0;

        void tell(int day, int what) {
            if (size < told.length) {
                toldOn[size] = day;
                told[size] = what;
                size++;
            }
        }

        /** What was told last; NONE also if nothing was. */
        int latest() {
            return size > 0 ? told[size - 1] : NONE;
        }

        /** What stands on a day where all is heard so many days late. */
        int heard(int late, int day) {
            int last = NONE;
            for (int i = 0; i < size; i++) {
                if (toldOn[i] + late <= day) {
                    last = told[i];
                }
            }
            return last;
        }
    }

    /** A TOWN with its GOODS. */
    private static final class Town {
        final Wares[] wares = new Wares[THINGS];
        int miles = 0;

        Town() {
            for (int thing = 0; thing < THINGS; thing++) {
                wares[thing] = new Wares();
            }
        }

        /** The days by which news is late here, and the times that carriage is added. */
        int tensOfMiles() {
            return miles / 10;
        }
    }

    /** GOODS of one TOWN and THING, and what became of them up to now. */
    private static final class Wares {
        private int cost = 0;
        int bid = 0;
        private int supply = 0;
        private int want = 0;
        int stock = 0;
        int hidden = 0;
        int brought = 0;
        int sold = 0;
        int spoilt = 0;
        int paid = 0;
        int weight = 0;

        void arrange(int newCost, int newBid, int newSupply, int newWant) {
            cost = newCost;
            bid = newBid;
            supply = newSupply;
            want = newWant;
        }

        /** One WEEK, at the PRICE of its day. */
        void passWeek(int price, int carrying, int spoilRate) {
            if (price >= cost + carrying) {
                bring();
            }
            if (price < bid) {
                hideHalf();
            } else {
                showAll();
            }
            sell(price);
            rot(spoilRate);
        }

        private void bring() {
            stock += supply;
            brought += supply;
        }

        private void hideHalf() {
            int half = stock / 2;
            stock -= half;
            hidden += half;
        }

        private void showAll() {
            stock += hidden;
            hidden = 0;
        }

        private void sell(int price) {
            int pieces = Math.min(stock, want);
            stock -= pieces;
            sold += pieces;
            paid += pieces * price;
            weight += pieces * weightOfPiece(price);
        }

        private int weightOfPiece(int price) {
            return bid > 0 && price < bid ? price * 100 / bid : 100;
        }

        private void rot(int spoilRate) {
            int ofStock = hundredthsUp(stock, spoilRate);
            int ofHidden = hundredthsUp(hidden, spoilRate);
            stock -= ofStock;
            hidden -= ofHidden;
            spoilt += ofStock + ofHidden;
        }

        private static int hundredthsUp(int pieces, int rate) {
            return (pieces * rate + 99) / 100;
        }
    }
}
