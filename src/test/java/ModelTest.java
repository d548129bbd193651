import java.util.Random;

/** Promises 1 to 22: runs of calls by chance (always the same ones) against the Model. */
public final class ModelTest {
    /** A call that may throw. */
    private interface Call {
        long answer();
    }

    private static final int RUNS = 500;
    // The document promises nothing of an object behind its 512th call; a step makes at most 25.
    private static final int CALLS = 512 - 25;
    private static final int[] EDGES = {Integer.MIN_VALUE, -2, -1, 10, 101, 10000, Integer.MAX_VALUE};
    private static final String[] SPOILERS = {"x", ";", "12345", " ", "cap", "-", "10000", "9", "\u00ff"};

    private final Random chance;
    private final PriceEdict x = new PriceEdict();
    private final Model model = new Model();
    // Few lines and figures in some runs, so that stones meet; many in others.
    private final int lines;
    private final int figures;
    private int calls = 0;

    private ModelTest(int seed) {
        chance = new Random(seed);
        lines = seed % 3 == 0 ? 30 : 3;
        figures = seed % 2 == 0 ? 10 : 3;
    }

    public static void main(String[] args) {
        for (int seed = 0; seed < RUNS; seed++) {
            ModelTest run = new ModelTest(seed);
            // Some steps make no call by chance: the bound is far above what a run needs.
            for (int step = 0; step < 10000 && run.calls < CALLS; step++) {
                run.step("run " + seed + ", step " + step);
            }
        }
        Check.end();
    }

    private static String outcome(Call call) {
        try {
            return "answers " + call.answer();
        } catch (RuntimeException e) {
            return "throws " + e.getClass().getName();
        }
    }

    private void same(String what, Call got, Call want) {
        calls++;
        String is = outcome(got);
        String due = outcome(want);
        Check.due(what + ": " + is + ", the model " + due, is.equals(due), true);
    }

    private static long bit(boolean b) {
        return b ? 1 : 0;
    }

    /** A number from low to high, seldom another one. */
    private int some(int low, int high) {
        if (chance.nextInt(40) == 0) {
            return chance.nextInt(3) == 0 ? chance.nextInt() : EDGES[chance.nextInt(EDGES.length)];
        }
        if (chance.nextInt(10) == 0) {
            return chance.nextBoolean() ? low : high;
        }
        return low + chance.nextInt(high - low + 1);
    }

    private int town() {
        return some(0, Math.max(0, (int) model.count(5) - 1));
    }

    private int thing() {
        return some(0, 5);
    }

    private int day() {
        int today = (int) model.count(0);
        return some(today - 60, today + 60);
    }

    private void step(String at) {
        int kind = chance.nextInt(23);
        if (kind < 6) {
            stoneStep(at, kind);
        } else if (kind < 12) {
            edictStep(at, kind);
        } else if (kind < 17) {
            marketStep(at, kind);
        } else {
            askStep(at, kind);
        }
    }

    private void stoneStep(String at, int kind) {
        int a = some(-1, figures - 1), b = some(-1, figures - 1), c = some(-1, figures - 1), d = some(-1, figures - 1);
        int line = some(0, lines - 1);
        if (kind < 3) {
            if (kind == 0 || chance.nextInt(4) == 0) {
                same(at + " stone", () -> x.stone(line, a, b, c, d), () -> model.stone(line, a, b, c, d));
            }
            int day = day();
            int what = some(0, 3);
            same(at + " agree", () -> x.agree(line, day, what), () -> model.agree(line, day, what));
        } else if (kind == 3) {
            int stone = some(0, Math.max(0, (int) model.count(1) - 1));
            same(at + " strike", () -> bit(x.strike(stone)), () -> model.strike(stone));
        } else if (kind == 4) {
            if (chance.nextInt(4) == 0) {
                same(at + " habit", () -> bit(x.habit(a, b)), () -> model.habit(a, b));
            }
        } else {
            int n = some(0, chance.nextInt(20) == 0 ? 100 : 9);
            same(at + " days", () -> x.days(n), () -> model.days(n));
        }
    }

    private void edictStep(String at, int kind) {
        if (kind == 6) {
            same(at + " undo", () -> bit(x.undo()), model::undo);
        } else if (kind == 7) {
            int n = some(0, 400);
            same(at + " end", () -> bit(x.end(n)), () -> model.end(n));
        } else if (kind == 8) {
            int a = chance.nextInt();
            same(at + " feed", () -> x.feed(a, a ^ 1, a ^ 2, a ^ 3, a ^ 4), () -> model.feed(a, a ^ 1, a ^ 2, a ^ 3, a ^ 4));
        } else if (chance.nextInt(3) == 0) {
            String text = text();
            if (chance.nextInt(10) != 0) {
                Check.tape(x, text);
                calls += 2 + (text.length() + 19) / 20;
                putOnModel(text);
            }
            same(at + " edict of '" + text + "'", x::edict, model::edict);
            same(at + " fault of '" + text + "'", x::fault, model::fault);
        }
    }

    private void putOnModel(String text) {
        model.end(0);
        for (int i = 0; i < text.length(); i += 20) {
            int[] numbers = new int[5];
            for (int j = 0; j < 20; j++) {
                int sign = i + j < text.length() ? text.charAt(i + j) : 0;
                numbers[j / 4] |= sign << 8 * (3 - j % 4);
            }
            model.feed(numbers);
        }
        model.end(text.length());
    }

    private String text() {
        StringBuilder text = new StringBuilder(blanks());
        int clauses = 1 + chance.nextInt(8);
        for (int i = 0; i < clauses; i++) {
            text.append(i == 0 ? "" : ";").append(blanks()).append(clause()).append(blanks());
        }
        if (chance.nextInt(3) == 0) {
            text.insert(chance.nextInt(text.length() + 1), SPOILERS[chance.nextInt(SPOILERS.length)]);
        }
        if (chance.nextInt(6) == 0) {
            text.setLength(chance.nextInt(text.length() + 1));
        }
        return text.length() > 400 ? text.substring(0, 400) : text.toString();
    }

    private String blanks() {
        return " ".repeat(chance.nextInt(4) == 0 ? chance.nextInt(3) : 0);
    }

    private String clause() {
        return switch (chance.nextInt(6)) {
            case 0, 1 -> "cap " + chance.nextInt(6) + " " + (1 + chance.nextInt(60));
            case 2 -> "line" + blanks() + chance.nextInt(6) + " " + chance.nextInt(lines);
            case 3 -> "carriage " + chance.nextInt(chance.nextInt(9) == 0 ? 101 : 4);
            case 4 -> "credit" + chance.nextInt(102);
            default -> "free " + chance.nextInt(9);
        };
    }

    private void marketStep(String at, int kind) {
        int town = town();
        int thing = thing();
        if (kind == 12) {
            int miles = some(0, chance.nextInt(4) == 0 ? 2000 : 99);
            same(at + " town", () -> x.town(miles), () -> model.town(miles));
        } else if (kind == 13) {
            int n = some(0, 30);
            same(at + " spoil", () -> {
                x.spoil(thing, n);
                return 0;
            }, () -> model.spoil(thing, n));
        } else if (kind == 14) {
            int n = some(0, 5);
            same(at + " carry", () -> {
                x.carry(n);
                return 0;
            }, () -> model.carry(n));
        } else if (kind == 15) {
            int cost = some(0, 20), bid = some(0, 60), supply = some(0, 1000), want = some(0, 1000);
            same(at + " goods", () -> {
                x.goods(town, thing, cost, bid, supply, want);
                return 0;
            }, () -> model.goods(town, thing, cost, bid, supply, want));
        } else {
            int n = some(0, chance.nextInt(30) == 0 ? 50 : 4);
            same(at + " weeks", () -> x.weeks(n), () -> model.weeks(n));
        }
    }

    private void askStep(String at, int kind) {
        int town = town(), thing = thing(), day = day();
        boolean credit = chance.nextBoolean();
        if (kind == 17) {
            same(at + " force", () -> x.force(town, day), () -> model.force(town, day));
        } else if (kind == 18) {
            same(at + " cap", () -> x.cap(town, thing, credit, day), () -> model.cap(town, thing, credit, day));
        } else if (kind == 19) {
            int near = (int) outcomeOfCap(town, thing, credit, day);
            int price = some(near - 1, near + 1);
            same(at + " judge", () -> x.judge(town, thing, price, credit, day),
                    () -> model.judge(town, thing, price, credit, day));
        } else if (kind == 20) {
            for (int what = 0; what < 8; what++) {
                int asked = chance.nextInt(20) == 0 ? some(-1, 8) : what;
                same(at + " look " + asked, () -> x.look(town, thing, asked), () -> model.look(town, thing, asked));
            }
        } else if (kind == 21) {
            int pay = some(0, 5000);
            same(at + " buys", () -> x.buys(town, thing, pay), () -> model.buys(town, thing, pay));
        } else {
            int what = some(-1, 9);
            same(at + " count " + what, () -> x.count(what), () -> model.count(what));
        }
    }

    private long outcomeOfCap(int town, int thing, boolean credit, int day) {
        try {
            return Math.max(0, model.cap(town, thing, credit, day));
        } catch (IndexOutOfBoundsException e) {
            return 0;
        }
    }
}
