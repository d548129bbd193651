import java.util.NoSuchElementException;

/**
 * "Of several exceptions the one told first is thrown; a call that throws changes nothing but the
 * TAPE, where it is used up": each argument of each call, at its bounds and beyond them.
 */
public final class RefusalTest {
    private static final Class<IndexOutOfBoundsException> INDEX = IndexOutOfBoundsException.class;
    private static final Class<IllegalArgumentException> ILLEGAL = IllegalArgumentException.class;
    private static final Class<NoSuchElementException> NO_ELEMENT = NoSuchElementException.class;

    /** The numbers that an argument may be, and what is thrown for others. */
    private record Argument(int low, int high, Class<? extends RuntimeException> refusal) {
        boolean hasBelow() {
            return low != Integer.MIN_VALUE;
        }

        boolean hasAbove() {
            return high != Integer.MAX_VALUE;
        }
    }

    private interface Use {
        void with(PriceEdict x, int[] n);
    }

    /** A call of the face; its arguments, each with a number that is good. */
    private record Call(String name, Use use, int[] good, Argument... arguments) {
    }

    private static final Argument LINE = new Argument(0, 29, INDEX);
    private static final Argument STONE = new Argument(0, Whole.STONES - 1, INDEX);
    private static final Argument TOWN = new Argument(0, Whole.TOWNS - 1, INDEX);
    private static final Argument THING = new Argument(0, 5, INDEX);
    private static final Argument FIGURE = new Argument(-1, 9, ILLEGAL);
    private static final Argument HABIT = new Argument(0, 9, ILLEGAL);
    private static final Argument PRICE = new Argument(0, 9999, ILLEGAL);
    private static final Argument PIECES = new Argument(0, 1000, ILLEGAL);
    private static final Argument DAY = new Argument(Integer.MIN_VALUE, Integer.MAX_VALUE, null);

    private static final Call[] CALLS = {
        new Call("stone", (x, n) -> x.stone(n[0], n[1], n[2], n[3], n[4]), new int[] {4, 1, 2, 3, 4},
                LINE, FIGURE, FIGURE, FIGURE, FIGURE),
        new Call("strike", (x, n) -> x.strike(n[0]), new int[] {1}, STONE),
        new Call("habit", (x, n) -> x.habit(n[0], n[1]), new int[] {4, 5}, HABIT, HABIT),
        new Call("agree", (x, n) -> x.agree(n[0], n[1], n[2]), new int[] {3, 9, 1},
                LINE, DAY, new Argument(0, 3, NO_ELEMENT)),
        new Call("town", (x, n) -> x.town(n[0]), new int[] {70}, new Argument(0, 2000, ILLEGAL)),
        new Call("goods", (x, n) -> x.goods(n[0], n[1], n[2], n[3], n[4], n[5]), new int[] {1, 0, 2, 30, 44, 33},
                TOWN, THING, PRICE, PRICE, PIECES, PIECES),
        new Call("spoil", (x, n) -> x.spoil(n[0], n[1]), new int[] {5, 3}, THING, new Argument(0, 100, ILLEGAL)),
        new Call("carry", (x, n) -> x.carry(n[0]), new int[] {5}, new Argument(0, 99, ILLEGAL)),
        new Call("weeks", (x, n) -> x.weeks(n[0]), new int[] {2}, new Argument(0, 50, ILLEGAL)),
        new Call("days", (x, n) -> x.days(n[0]), new int[] {2}, new Argument(0, 100, ILLEGAL)),
        new Call("force", (x, n) -> x.force(n[0], n[1]), new int[] {1, 9}, TOWN, DAY),
        new Call("cap", (x, n) -> x.cap(n[0], n[1], true, n[2]), new int[] {1, 0, 9}, TOWN, THING, DAY),
        new Call("judge", (x, n) -> x.judge(n[0], n[1], n[2], false, n[3]), new int[] {1, 0, 12, 9},
                TOWN, THING, new Argument(0, Integer.MAX_VALUE, ILLEGAL), DAY),
        new Call("look", (x, n) -> x.look(n[0], n[1], n[2]), new int[] {1, 0, 2},
                TOWN, THING, new Argument(0, 7, NO_ELEMENT)),
        new Call("buys", (x, n) -> x.buys(n[0], n[1], n[2]), new int[] {1, 0, 500},
                TOWN, THING, new Argument(0, 100000, ILLEGAL)),
    };

    /** The calls that only tell. */
    private static final String TELLING = " agree force cap judge look buys ";

    public static void main(String[] args) {
        for (Call call : CALLS) {
            lastAllowed(call);
            firstRefused(call);
            firstTold(call);
        }
        figuresAreOne();
        fullIsToldLast();
        fullStaysAsItWas();
        wrongTextLeavesTheRest();
        oneTooManyLeavesTheRest();
        refusedByAnAnswer();
        tellingChangesNothing();
        emptyRefuses();
        Check.end();
    }

    private static int[] changed(Call call, int argument, int number) {
        int[] n = call.good().clone();
        n[argument] = number;
        return n;
    }

    private static String text(Call call, int[] n) {
        StringBuilder text = new StringBuilder(call.name()).append('(');
        for (int i = 0; i < n.length; i++) {
            text.append(i == 0 ? "" : ", ").append(n[i]);
        }
        return text.append(')').toString();
    }

    private static void lastAllowed(Call call) {
        Check.sentence("Of several exceptions the one told first is thrown");
        for (int i = 0; i < call.arguments().length; i++) {
            Argument argument = call.arguments()[i];
            for (int number : new int[] {argument.low(), argument.high()}) {
                int[] n = changed(call, i, number);
                String got = Whole.outcome(() -> {
                    call.use().with(Whole.busy(), n);
                    return 0;
                });
                Check.due(text(call, n) + " is allowed", got, "0");
            }
        }
    }

    private static void firstRefused(Call call) {
        Check.sentence("a call that throws changes nothing but the TAPE, where it is used up");
        for (int i = 0; i < call.arguments().length; i++) {
            Argument argument = call.arguments()[i];
            if (argument.hasBelow()) {
                dueRefused(call, changed(call, i, argument.low() - 1), argument.refusal());
                dueRefused(call, changed(call, i, Integer.MIN_VALUE), argument.refusal());
            }
            if (argument.hasAbove()) {
                dueRefused(call, changed(call, i, argument.high() + 1), argument.refusal());
                dueRefused(call, changed(call, i, Integer.MAX_VALUE), argument.refusal());
            }
        }
    }

    private static void dueRefused(Call call, int[] n, Class<? extends RuntimeException> refusal) {
        PriceEdict x = Whole.busy();
        Check.dueThrow(text(call, n), refusal, () -> call.use().with(x, n));
        dueAsItWas(text(call, n), x, Whole.busy());
    }

    private static void dueAsItWas(String what, PriceEdict got, PriceEdict want) {
        Check.due("behind " + what, Whole.answers(got), Whole.answers(want));
    }

    /** Two wrong arguments: IndexOutOfBoundsException is told ahead of each other one. */
    private static void firstTold(Call call) {
        Check.sentence("Of several exceptions the one told first is thrown");
        for (int i = 0; i < call.arguments().length; i++) {
            for (int j = 0; j < call.arguments().length; j++) {
                Argument first = call.arguments()[i];
                Argument second = call.arguments()[j];
                if (first.refusal() == INDEX && second.refusal() != INDEX && second.hasBelow()) {
                    int[] n = changed(call, i, first.high() + 1);
                    n[j] = second.low() - 1;
                    dueRefused(call, n, INDEX);
                }
            }
        }
    }

    private static void figuresAreOne() {
        Check.sentence("IllegalArgumentException: figures are none, or one.");
        for (int figure = 0; figure < 10; figure++) {
            dueRefused(CALLS[2], new int[] {figure, figure}, ILLEGAL);
        }
    }

    private static void fullIsToldLast() {
        Check.sentence("Of several exceptions the one told first is thrown");
        PriceEdict x = Whole.full();
        Check.dueIndex("full: a STONE of no LINE", () -> x.stone(30, 10, 0, 0, 0));
        Check.dueIndex("full: a STONE of no LINE, with FIGURES", () -> x.stone(-1, 0, 0, 0, 0));
        Check.dueIllegal("full: a STONE with no FIGURE", () -> x.stone(0, 0, 0, 0, 10));
        Check.dueUnsupported("full: a STONE", () -> x.stone(0, 0, 0, 0, 0));
        Check.dueIllegal("full: a TOWN with no MILES", () -> x.town(2001));
        Check.dueIllegal("full: a TOWN with no MILES below", () -> x.town(-1));
        Check.dueUnsupported("full: a TOWN", () -> x.town(0));
        Check.dueFault(x, "cap 0 1;", 8);
        Check.dueUnsupported("full: an EDICT", () -> Check.edict(x, "cap 0 1"));
    }

    private static void fullStaysAsItWas() {
        Check.sentence("a call that throws changes nothing but the TAPE, where it is used up");
        PriceEdict x = Whole.full();
        Check.dueUnsupported("a 61st STONE", () -> x.stone(3, 9, 9, 9, 9));
        dueAsItWas("a 61st STONE", x, Whole.full());
        PriceEdict y = Whole.full();
        Check.dueUnsupported("a 9th TOWN", () -> y.town(1234));
        dueAsItWas("a 9th TOWN", y, Whole.full());
    }

    private static void wrongTextLeavesTheRest() {
        Check.sentence("a call that throws changes nothing but the TAPE, where it is used up");
        PriceEdict x = Whole.busy();
        Check.due("fault of busy()", x.fault(), 14);
        // As wrong as the text ahead of it, so that fault() tells the same of both.
        Check.dueFault(x, "cap 5 17;free 9", 14);
        Check.due("the TAPE is used up", x.end(1), false);
        Check.tape(x, Whole.TAPE);
        dueAsItWas("a wrong text", x, Whole.busy());
    }

    private static void oneTooManyLeavesTheRest() {
        Check.sentence("a call that throws changes nothing but the TAPE, where it is used up");
        PriceEdict x = Whole.full();
        Check.dueUnsupported("a 21st EDICT", x::edict);
        Check.due("the TAPE is used up", x.end(1), false);
        Check.tape(x, Whole.TAPE);
        dueAsItWas("a 21st EDICT", x, Whole.full());
    }

    private static void refusedByAnAnswer() {
        Check.sentence("NONE, and none come, if it would have more than 400.");
        PriceEdict x = Whole.busy();
        String blanks = " ".repeat(400 - Whole.TAPE.length());
        Check.tape(x, Whole.TAPE + blanks);
        Check.due("feed", x.feed(-1, -1, -1, -1, -1), PriceEdict.NONE);
        PriceEdict twin = Whole.busy();
        Check.tape(twin, Whole.TAPE + blanks);
        dueAsItWas("a feed that is refused", x, twin);
        Check.sentence("false, and nothing happens, if it has fewer, or n is below 0.");
        for (int n : new int[] {-1, Whole.TAPE.length() + 1}) {
            PriceEdict y = Whole.busy();
            Check.due("end(" + n + ")", y.end(n), false);
            dueAsItWas("end(" + n + ")", y, Whole.busy());
        }
        Check.sentence("false, and nothing happens, if there is none told, or the latest is undone.");
        PriceEdict undone = Whole.busy();
        undone.undo();
        Check.due("undo again", undone.undo(), false);
        PriceEdict once = Whole.busy();
        once.undo();
        dueAsItWas("an undo that is refused", undone, once);
        PriceEdict untold = new PriceEdict();
        Check.due("undo of none", untold.undo(), false);
        dueAsItWas("undo of none", untold, new PriceEdict());
    }

    private static void tellingChangesNothing() {
        Check.sentence("Nothing is promised beyond the answers and state changes described above");
        for (Call call : CALLS) {
            if (TELLING.contains(" " + call.name() + " ")) {
                PriceEdict x = Whole.busy();
                call.use().with(x, call.good());
                dueAsItWas(text(call, call.good()), x, Whole.busy());
            }
        }
        PriceEdict x = Whole.busy();
        for (int what = -1; what <= 9; what++) {
            x.count(what);
        }
        x.fault();
        dueAsItWas("count and fault", x, Whole.busy());
    }

    private static void emptyRefuses() {
        Check.sentence("IndexOutOfBoundsException: there is no such LINE, STONE, THING, TOWN, EDICT.");
        for (Call call : CALLS) {
            if (call.arguments()[0] == TOWN || call.arguments()[0] == STONE) {
                PriceEdict x = new PriceEdict();
                int[] n = changed(call, 0, 0);
                Check.dueThrow("new: " + text(call, n), INDEX, () -> call.use().with(x, n));
                dueAsItWas("new: " + text(call, n), x, new PriceEdict());
            }
        }
    }
}
