import java.util.NoSuchElementException;
import java.util.function.IntSupplier;

/**
 * Objects with something in every corner, and all that they can be asked: what a call changed, or
 * left as it was, shows as a difference of two such answers.
 */
final class Whole {
    /** The TAPE of busy(): a right text, told by nobody yet. */
    static final String TAPE = "cap 0 21;line 2 3;carriage 1;credit 30;free 1";
    static final int TOWNS = 3;
    static final int STONES = 5;
    private static final int[] LINES = {0, 3, 7, 29};
    private static final int[] DAYS = {-1, 0, 4, 9, 30, 40, 5300};

    private Whole() {
    }

    /** Three TOWNS, five STONES, two HABITS, two EDICTS and an UNDOING, markets, and a text on the TAPE. */
    static PriceEdict busy() {
        PriceEdict x = new PriceEdict();
        x.town(0);
        x.town(45);
        x.town(2000);
        goods(x);
        stones(x);
        Check.edict(x, "cap 0 12;cap 5 40;line 1 3;carriage 2;credit 15;free 2");
        x.weeks(2);
        x.undo();
        x.days(3);
        x.stone(3, -1, -1, 0, 7);
        x.strike(1);
        Check.edict(x, "cap 0 11;line 5 7;credit 50");
        x.weeks(1);
        tryText(x, "cap 0 10;free 8");
        Check.tape(x, TAPE);
        return x;
    }

    private static void goods(PriceEdict x) {
        x.carry(3);
        x.spoil(0, 10);
        x.spoil(5, 33);
        for (int town = 0; town < TOWNS; town++) {
            x.goods(town, 0, 5, 20 + town, 50, 20);
            x.goods(town, 1, 3, 700, 40, 15);
            x.goods(town, 5, 9, 60 - town, 31, 12);
        }
    }

    private static void stones(PriceEdict x) {
        x.habit(3, 8);
        x.habit(0, 6);
        x.stone(3, 0, -1, 3, -1);
        x.stone(3, 0, 1, 8, 7);
        x.stone(0, 1, 2, 4, 5);
        x.stone(7, 0, 0, 5, -1);
    }

    private static void tryText(PriceEdict x, String text) {
        outcome(() -> Check.edict(x, text));
    }

    /** As many TOWNS, STONES and EDICTS as there may be, and a text on the TAPE. */
    static PriceEdict full() {
        PriceEdict x = busy();
        for (int i = TOWNS; i < 8; i++) {
            x.town(10 * i);
        }
        for (int i = STONES; i < 60; i++) {
            x.stone(10 + i % 15, i % 10, -1, -1, i % 7);
        }
        for (int i = 2; i < 20; i++) {
            Check.edict(x, i == 19 ? TAPE : "free 7");
        }
        Check.tape(x, TAPE);
        return x;
    }

    /** What a call answers, or what it throws. */
    static String outcome(IntSupplier call) {
        try {
            return Integer.toString(call.getAsInt());
        } catch (IndexOutOfBoundsException | IllegalArgumentException e) {
            return e.getClass().getSimpleName();
        } catch (UnsupportedOperationException | NoSuchElementException e) {
            return e.getClass().getSimpleName();
        }
    }

    /** All answers: first as it is, then as it goes on (which uses the object up). */
    static String answers(PriceEdict x) {
        StringBuilder all = new StringBuilder();
        asked(x, all);
        goesOn(x, all);
        asked(x, all);
        return all.toString();
    }

    private static void note(StringBuilder all, String what, IntSupplier call) {
        all.append(what).append('=').append(outcome(call)).append(' ');
    }

    private static void asked(PriceEdict x, StringBuilder all) {
        note(all, "fault", x::fault);
        for (int what = 0; what <= 8; what++) {
            int asked = what;
            note(all, "count" + what, () -> x.count(asked));
        }
        for (int line : LINES) {
            for (int day : new int[] {0, 20, 5000}) {
                note(all, "agree" + line + "," + day, () -> x.agree(line, day, 0));
            }
        }
        for (int i = 0; i < TOWNS; i++) {
            askedOfTown(x, all, i);
        }
    }

    private static void askedOfTown(PriceEdict x, StringBuilder all, int town) {
        for (int day : DAYS) {
            note(all, "force" + town + "," + day, () -> x.force(town, day));
        }
        for (int thing : new int[] {0, 1, 5}) {
            note(all, "cap" + town + "," + thing, () -> x.cap(town, thing, true, x.count(0) + 20));
            for (int what = 0; what < 8; what++) {
                int asked = what;
                note(all, "look" + town + "," + thing + "," + what, () -> x.look(town, thing, asked));
            }
        }
    }

    private static void goesOn(PriceEdict x, StringBuilder all) {
        note(all, "edict", x::edict);
        note(all, "fault", x::fault);
        note(all, "feed", () -> x.feed(0, 0, 0, 0, 0));
        note(all, "undo", () -> x.undo() ? 1 : 0);
        for (int i = 0; i < STONES; i++) {
            int stone = i;
            note(all, "strike" + i, () -> x.strike(stone) ? 1 : 0);
        }
        note(all, "habit", () -> x.habit(8, 3) ? 1 : 0);
        note(all, "habit", () -> x.habit(0, 1) ? 1 : 0);
        note(all, "stone", () -> x.stone(7, 0, 0, 1, 1));
        note(all, "town", () -> x.town(100));
        note(all, "weeks", () -> x.weeks(3));
        note(all, "days", () -> x.days(1));
    }
}
