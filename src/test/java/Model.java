import java.util.ArrayList;
import java.util.HashMap;
import java.util.HashSet;
import java.util.List;
import java.util.Map;
import java.util.NoSuchElementException;
import java.util.Set;
import java.util.TreeMap;
import java.util.regex.Matcher;
import java.util.regex.Pattern;

/**
 * The document once more, written apart from the program and without its short ways (prices are
 * tried one by one, texts are cut by a pattern), so that a slip of either shows as a difference.
 */
final class Model {
    private static final int NONE = -1;
    private static final Pattern TOKEN = Pattern.compile("[a-z]+|[0-9]+|[^ ]", Pattern.DOTALL);

    private record Stone(int line, int[] figures, int found, List<Integer> struck) {
    }

    private record Told(int day, int edict) {
    }

    /** What an edict tells, by CLAUSE and what it is about: "thing 3", "carriage", "free 2". */
    private record Text(Map<String, int[]> clauses, int wrong) {
    }

    private static final class Goods {
        long cost, bid, supply, want, stock, hidden, brought, sold, spoilt, money, weight;
    }

    private final StringBuilder tape = new StringBuilder();
    private final List<Stone> stones = new ArrayList<>();
    private final Set<String> habits = new HashSet<>();
    private final List<Map<String, int[]>> edicts = new ArrayList<>();
    private final List<Told> told = new ArrayList<>();
    private final List<Integer> miles = new ArrayList<>();
    private final Map<String, Goods> goods = new TreeMap<>();
    private final int[] spoil = new int[6];
    private final Map<String, List<Integer>> agreed = new HashMap<>();
    private long carry = 1;
    private int today = 0;
    private int fault = NONE;

    private static void index(boolean good) {
        if (!good) {
            throw new IndexOutOfBoundsException();
        }
    }

    private static void legal(boolean good) {
        if (!good) {
            throw new IllegalArgumentException();
        }
    }

    private static void supported(boolean good) {
        if (!good) {
            throw new UnsupportedOperationException();
        }
    }

    private static void element(boolean good) {
        if (!good) {
            throw new NoSuchElementException();
        }
    }

    private void place(int town, int thing) {
        index(town >= 0 && town < miles.size() && thing >= 0 && thing <= 5);
    }

    private Goods goodsOf(int town, int thing) {
        return goods.computeIfAbsent(town + "." + thing, key -> new Goods());
    }

    long feed(int... numbers) {
        if (tape.length() > 380) {
            return NONE;
        }
        for (int number : numbers) {
            for (int i = 3; i >= 0; i--) {
                tape.append((char) (number >>> 8 * i & 0xff));
            }
        }
        return tape.length();
    }

    long end(int n) {
        if (n < 0 || tape.length() < n) {
            return 0;
        }
        tape.setLength(n);
        return 1;
    }

    long stone(int line, int... figures) {
        index(line >= 0 && line < 30);
        for (int figure : figures) {
            legal(figure >= -1 && figure <= 9);
        }
        supported(stones.size() < 60);
        stones.add(new Stone(line, figures, today, new ArrayList<>()));
        return stones.size() - 1;
    }

    long strike(int stone) {
        index(stone >= 0 && stone < stones.size());
        List<Integer> struck = stones.get(stone).struck();
        if (!struck.isEmpty()) {
            return 0;
        }
        struck.add(today);
        return 1;
    }

    long habit(int a, int b) {
        legal(a >= 0 && a <= 9 && b >= 0 && b <= 9 && a != b);
        return habits.add(Math.min(a, b) + "~" + Math.max(a, b)) ? 1 : 0;
    }

    private boolean fits(int figure, int read) {
        return read == NONE || figure == read
                || habits.contains(Math.min(figure, read) + "~" + Math.max(figure, read));
    }

    private boolean fits(int price, Stone stone) {
        int[] figures = {price / 1000, price / 100 % 10, price / 10 % 10, price % 10};
        for (int i = 0; i < 4; i++) {
            if (!fits(figures[i], stone.figures()[i])) {
                return false;
            }
        }
        return true;
    }

    private List<Integer> agreeing(int line, int day) {
        List<Stone> known = new ArrayList<>();
        StringBuilder key = new StringBuilder().append(habits.size());
        for (int i = 0; i < stones.size(); i++) {
            Stone stone = stones.get(i);
            boolean gone = !stone.struck().isEmpty() && stone.struck().get(0) <= day;
            if (stone.line() == line && stone.found() <= day && !gone) {
                known.add(stone);
                key.append(',').append(i);
            }
        }
        return agreed.computeIfAbsent(key.toString(), unused -> {
            List<Integer> prices = new ArrayList<>();
            for (int price = 0; price <= 9999; price++) {
                int tried = price;
                if (known.isEmpty() || known.stream().allMatch(stone -> fits(tried, stone))) {
                    prices.add(price);
                }
            }
            return prices;
        });
    }

    long agree(int line, int day, int what) {
        index(line >= 0 && line < 30);
        element(what >= 0 && what <= 3);
        List<Integer> prices = agreeing(line, day);
        int size = prices.size();
        int[] answers = {
            size, size == 0 ? NONE : prices.get(0), size == 0 ? NONE : prices.get(size - 1), size == 1 ? 1 : 0,
        };
        return answers[what];
    }

    /** Bounds of the numbers behind a word, or null if the word is none. */
    private static int[][] bounds(String word) {
        return switch (word) {
            case "cap" -> new int[][] {{0, 5}, {1, 9999}};
            case "line" -> new int[][] {{0, 5}, {0, 29}};
            case "carriage" -> new int[][] {{0, 99}};
            case "credit" -> new int[][] {{0, 100}};
            case "free" -> new int[][] {{0, 7}};
            default -> null;
        };
    }

    private static Text parse(String text) {
        List<String> tokens = new ArrayList<>();
        List<Integer> begins = new ArrayList<>();
        Matcher matcher = TOKEN.matcher(text);
        while (matcher.find()) {
            tokens.add(matcher.group());
            begins.add(matcher.start());
        }
        tokens.add("");
        begins.add(text.length());
        Map<String, int[]> clauses = new HashMap<>();
        int at = 0;
        while (true) {
            String word = tokens.get(at);
            int[][] bounds = bounds(word);
            if (bounds == null) {
                return new Text(clauses, begins.get(at));
            }
            int[] numbers = new int[bounds.length];
            for (int i = 0; i < bounds.length; i++) {
                at++;
                String token = tokens.get(at);
                if (!token.matches("[0-9]{1,4}")) {
                    return new Text(clauses, begins.get(at));
                }
                numbers[i] = Integer.parseInt(token);
                if (numbers[i] < bounds[i][0] || numbers[i] > bounds[i][1]) {
                    return new Text(clauses, begins.get(at));
                }
            }
            switch (word) {
                case "cap" -> clauses.put("thing " + numbers[0], new int[] {0, numbers[1]});
                case "line" -> clauses.put("thing " + numbers[0], new int[] {1, numbers[1]});
                case "free" -> clauses.put("free " + numbers[0], numbers);
                default -> clauses.put(word, numbers);
            }
            at++;
            if (tokens.get(at).isEmpty()) {
                return new Text(clauses, NONE);
            }
            if (!tokens.get(at).equals(";")) {
                return new Text(clauses, begins.get(at));
            }
            at++;
        }
    }

    long edict() {
        Text text = parse(tape.toString());
        tape.setLength(0);
        fault = text.wrong();
        legal(fault == NONE);
        supported(edicts.size() < 20);
        edicts.add(text.clauses());
        told.add(new Told(today, edicts.size() - 1));
        return edicts.size() - 1;
    }

    long fault() {
        return fault;
    }

    long undo() {
        if (told.isEmpty() || told.get(told.size() - 1).edict() == NONE) {
            return 0;
        }
        told.add(new Told(today, NONE));
        return 1;
    }

    long town(int n) {
        legal(n >= 0 && n <= 2000);
        supported(miles.size() < 8);
        miles.add(n);
        return miles.size() - 1;
    }

    long goods(int town, int thing, int... n) {
        place(town, thing);
        legal(n[0] >= 0 && n[0] <= 9999 && n[1] >= 0 && n[1] <= 9999);
        legal(n[2] >= 0 && n[2] <= 1000 && n[3] >= 0 && n[3] <= 1000);
        Goods g = goodsOf(town, thing);
        g.cost = n[0];
        g.bid = n[1];
        g.supply = n[2];
        g.want = n[3];
        return 0;
    }

    long spoil(int thing, int n) {
        index(thing >= 0 && thing <= 5);
        legal(n >= 0 && n <= 100);
        spoil[thing] = n;
        return 0;
    }

    long carry(int n) {
        legal(n >= 0 && n <= 99);
        carry = n;
        return 0;
    }

    long days(int n) {
        legal(n >= 0 && n <= 100);
        for (int i = 0; i < n && today < 5000; i++) {
            today++;
        }
        return today;
    }

    long weeks(int n) {
        legal(n >= 0 && n <= 50);
        for (int i = 0; i < n && today <= 4993; i++) {
            today += 7;
            for (int town = 0; town < miles.size(); town++) {
                for (int thing = 0; thing < 6; thing++) {
                    week(town, thing);
                }
            }
        }
        return today;
    }

    private void week(int town, int thing) {
        Goods g = goodsOf(town, thing);
        long price = price(town, thing);
        boolean below = price < g.bid;
        long brought = price < g.cost + carry * miles.get(town) / 10 ? 0 : g.supply;
        g.brought += brought;
        g.stock += brought;
        long moved = below ? g.stock / 2 : -g.hidden;
        g.hidden += moved;
        g.stock -= moved;
        for (long i = 0; i < g.want && g.stock > 0; i++) {
            g.stock--;
            g.sold++;
            g.money += price;
            g.weight += below ? price * 100 / g.bid : 100;
        }
        long stockSpoilt = -Math.floorDiv(-g.stock * spoil[thing], 100L);
        long hiddenSpoilt = -Math.floorDiv(-g.hidden * spoil[thing], 100L);
        g.stock -= stockSpoilt;
        g.hidden -= hiddenSpoilt;
        g.spoilt += stockSpoilt + hiddenSpoilt;
    }

    long force(int town, int day) {
        index(town >= 0 && town < miles.size());
        long heardOn = Long.MIN_VALUE;
        int last = NONE;
        for (Told news : told) {
            long heard = (long) news.day() + miles.get(town) / 10;
            if (heard <= day && heard >= heardOn) {
                heardOn = heard;
                last = news.edict();
            }
        }
        return last;
    }

    long cap(int town, int thing, boolean credit, int day) {
        place(town, thing);
        int number = (int) force(town, day);
        if (number == NONE) {
            return NONE;
        }
        Map<String, int[]> edict = edicts.get(number);
        int[] clause = edict.get("thing " + thing);
        if (clause == null || edict.containsKey("free " + town)) {
            return NONE;
        }
        long cap = clause[1];
        if (clause[0] == 1) {
            long greatest = agree(clause[1], day, 2);
            cap = greatest == NONE ? 9999 : greatest;
        }
        cap += (long) edict.getOrDefault("carriage", new int[] {0})[0] * (miles.get(town) / 10);
        long hundredths = edict.getOrDefault("credit", new int[] {0})[0];
        return credit ? cap * (100 + hundredths) / 100 : cap;
    }

    private long price(int town, int thing) {
        long bid = goodsOf(town, thing).bid;
        long cap = cap(town, thing, false, today);
        return cap != NONE && cap < bid ? cap : bid;
    }

    long judge(int town, int thing, int price, boolean credit, int day) {
        place(town, thing);
        legal(price >= 0);
        long cap = cap(town, thing, credit, day);
        return cap == NONE || price <= cap ? 0 : 1;
    }

    long look(int town, int thing, int what) {
        place(town, thing);
        element(what >= 0 && what <= 7);
        Goods g = goodsOf(town, thing);
        long[] answers = {
            g.stock, g.hidden, g.brought, g.sold, g.spoilt, (int) g.money, g.weight, price(town, thing),
        };
        return answers[what];
    }

    long buys(int town, int thing, int pay) {
        place(town, thing);
        legal(pay >= 0 && pay <= 100000);
        long stock = goodsOf(town, thing).stock;
        long price = price(town, thing);
        return price == 0 ? stock : Math.min(stock, pay / price);
    }

    long count(int what) {
        return switch (what) {
            case 0 -> today;
            case 1 -> stones.size();
            case 2 -> stones.stream().filter(stone -> stone.struck().isEmpty()).count();
            case 3 -> habits.size();
            case 4 -> edicts.size();
            case 5 -> miles.size();
            case 6 -> goods.values().stream().mapToLong(g -> g.stock).sum();
            case 7 -> goods.values().stream().mapToLong(g -> g.hidden).sum();
            case 8 -> java.util.stream.IntStream.range(0, 30).filter(i -> agree(i, today, 3) == 1).count();
            default -> NONE;
        };
    }
}
