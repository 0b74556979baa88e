import java.math.BigInteger;
import java.util.ArrayList;
import java.util.Arrays;
import java.util.List;

/**
 * Plays long runs of calls against a slow second reckoning of the document, made the other way round where it can be:
 * ways and rings by listing all orders of moneys, needs by trying each rate, amounts as BigInteger.
 */
public final class ModelTest {
    private static final int RUNS = 500;
    private static final int CALLS = 512;
    private static final Check CHECK = new Check();

    private long seed = 20261119;

    public static void main(String[] args) {
        ModelTest test = new ModelTest();
        for (int run = 0; run < RUNS; run++) {
            test.play(run);
        }
        CHECK.end();
    }

    private int below(int bound) {
        seed = seed * 6364136223846793005L + 1442695040888963407L;
        return (int) ((seed >>> 33) % bound);
    }

    private int oneOf(int... values) {
        return values[below(values.length)];
    }

    private int money() {
        return below(40) == 0 ? oneOf(-1, 5, Integer.MAX_VALUE, Integer.MIN_VALUE) : below(5);
    }

    private int customer(Model m) {
        return below(40) == 0 ? oneOf(-1, 6, m.purses.size(), Integer.MIN_VALUE) : below(Math.max(1, m.purses.size()));
    }

    private int place(Model m) {
        return below(10) == 0 ? oneOf(-1, 10, m.orders.size(), Integer.MAX_VALUE) : below(Math.max(1, m.orders.size()));
    }

    private int amount() {
        switch (below(8)) {
            case 0: return oneOf(-1, 0, 1, 99999, 100000, Integer.MAX_VALUE, Integer.MIN_VALUE);
            case 1: return 1 + below(99999);
            case 2: return 1 + below(10);
            default: return 1 + below(900);
        }
    }

    private int rate() {
        switch (below(8)) {
            case 0: return oneOf(-1, 0, 0, 1, 9999, 10000, Integer.MAX_VALUE);
            case 1: return below(10000);
            default: return 60 + below(90);
        }
    }

    private void play(int run) {
        Model m = new Model();
        MoneyBooth x = new MoneyBooth();
        int kinds = below(3) == 0 ? 20 : 28;
        for (int call = 0; call < CALLS; call++) {
            int kind = call < 60 && below(2) == 0 ? oneOf(0, 5, 6, 6, 3) : below(kinds);
            int[] a = arguments(kind, m);
            String name = "run " + run + ", call " + call + ": kind " + kind + Arrays.toString(a);
            CHECK.holds(name, answer(() -> m.call(kind, a)).equals(answer(() -> real(x, kind, a))));
            CHECK.holds(name + " digest", m.digest() == x.digest());
        }
    }

    private interface Answer {
        Object give();
    }

    private static String answer(Answer a) {
        try {
            return String.valueOf(a.give());
        } catch (RuntimeException e) {
            return e.getClass().getName();
        }
    }

    private int[] arguments(int kind, Model m) {
        switch (kind) {
            case 0: case 20: return new int[] {money(), money(), rate()};
            case 1: return new int[] {below(10) == 0 ? oneOf(-1, 50, 51) : below(20)};
            case 2: return new int[] {money(), below(3) == 0 ? amount() : 9000 + below(90999)};
            case 3: return new int[] {money(), amount()};
            case 6: return new int[] {customer(m), money(), amount()};
            case 7: case 21: case 22: case 23: return new int[] {customer(m), money(), money(), amount()};
            case 8: case 24: case 25: case 26: {
                int amount = amount();
                int asks = below(3) == 0 ? amount() : amount > 0 && amount < 900 ? amount * (60 + below(60)) / 100 : 1;
                return new int[] {customer(m), money(), money(), amount, asks};
            }
            case 9: return new int[] {place(m)};
            case 10: return new int[] {customer(m), money()};
            case 11: return new int[] {money(), money()};
            case 12: return new int[] {place(m), money()};
            case 13: return new int[] {below(9) - 1};
            case 14: case 15: return new int[] {money(), money(), amount()};
            case 16: return new int[] {money(), amount()};
            case 17: case 27: return new int[] {money(), money()};
            case 18: return new int[] {money()};
            default: return new int[0];
        }
    }

    private static Object real(MoneyBooth x, int kind, int[] a) {
        switch (kind) {
            case 0: case 20: return x.setRate(a[0], a[1], a[2]);
            case 1: return x.setSpread(a[0]);
            case 2: return x.setLimit(a[0], a[1]);
            case 3: return x.stock(a[0], a[1]);
            case 4: return x.next();
            case 5: return x.come();
            case 6: return x.earn(a[0], a[1], a[2]);
            case 7: case 21: case 22: case 23: return x.change(a[0], a[1], a[2], a[3]);
            case 8: case 24: case 25: case 26: return x.order(a[0], a[1], a[2], a[3], a[4]);
            case 9: return x.cancel(a[0]);
            case 10: return x.has(a[0], a[1]);
            case 11: return x.told(a[0], a[1]);
            case 12: return x.about(a[0], a[1]);
            case 13: return x.count(a[0]);
            case 14: return x.would(a[0], a[1], a[2]);
            case 15: return x.way(a[0], a[1], a[2]);
            case 16: return x.ring(a[0], a[1]);
            case 17: case 27: return x.needs(a[0], a[1]);
            case 18: return x.mean(a[0]);
            default: return x.digest();
        }
    }

    private static final class Model {
        private static final BigInteger TEN_THOUSAND = BigInteger.valueOf(10000);
        private static final BigInteger MOST_INT = BigInteger.valueOf(Integer.MAX_VALUE);
        private static final List<List<Integer>> LINES = new ArrayList<>();

        static {
            addLines(new ArrayList<>());
        }

        private final int[][] rate = new int[5][5];
        private final int[] stock = {1000, 1000, 1000, 1000, 1000};
        private final int[] dust = new int[5];
        private final int[] limit = {9999, 9999, 9999, 9999, 9999};
        private final int[] given = new int[5];
        private final List<int[]> purses = new ArrayList<>();
        private final List<int[]> orders = new ArrayList<>();
        private int day;
        private int spread;
        private int changes;
        private int done;

        /** All lines of one to five different moneys. */
        private static void addLines(List<Integer> line) {
            for (int money = 0; money < 5; money++) {
                if (!line.contains(money)) {
                    List<Integer> longer = new ArrayList<>(line);
                    longer.add(money);
                    LINES.add(longer);
                    addLines(longer);
                }
            }
        }

        private Object call(int kind, int[] a) {
            switch (kind) {
                case 0: case 20:
                    index(a[0], 5);
                    index(a[1], 5);
                    argument(a[0] != a[1] && a[2] >= 0 && a[2] <= 9999);
                    rate[a[0]][a[1]] = a[2];
                    return look();
                case 1:
                    argument(a[0] >= 0 && a[0] <= 50);
                    spread = a[0];
                    return look();
                case 2: {
                    index(a[0], 5);
                    argument(a[1] >= 0 && a[1] <= 99999);
                    int before = limit[a[0]];
                    limit[a[0]] = a[1];
                    return before;
                }
                case 3:
                    index(a[0], 5);
                    named(a[1]);
                    return stock[a[0]] = Math.min(999999, stock[a[0]] + a[1]);
                case 4:
                    day++;
                    Arrays.fill(given, 0);
                    return look();
                case 5:
                    state(purses.size() < 6);
                    purses.add(new int[5]);
                    return purses.size() - 1;
                case 6:
                    index(a[0], purses.size());
                    index(a[1], 5);
                    named(a[2]);
                    return purses.get(a[0])[a[1]] = Math.min(999999, purses.get(a[0])[a[1]] + a[2]);
                case 7: case 21: case 22: case 23:
                    index(a[0], purses.size());
                    index(a[1], 5);
                    index(a[2], 5);
                    state(a[1] != a[2] && can(a[0], a[1], a[2], a[3], rate[a[1]][a[2]]));
                    return make(a[0], a[1], a[2], a[3]);
                case 8: case 24: case 25: case 26:
                    index(a[0], purses.size());
                    index(a[1], 5);
                    index(a[2], 5);
                    argument(a[1] != a[2]);
                    named(a[3]);
                    named(a[4]);
                    state(orders.size() < 10);
                    orders.add(a.clone());
                    return orders.size();
                case 9:
                    index(a[0], orders.size());
                    return orders.remove(a[0])[0];
                default:
                    return look(kind, a);
            }
        }

        private Object look(int kind, int[] a) {
            switch (kind) {
                case 10:
                    index(a[0], purses.size());
                    index(a[1], 5);
                    return purses.get(a[0])[a[1]];
                case 11:
                    index(a[0], 5);
                    index(a[1], 5);
                    return told(a[0])[a[1]];
                case 12:
                    index(a[0], orders.size());
                    index(a[1], 5);
                    return orders.get(a[0])[a[1]];
                case 13:
                    index(a[0], 7);
                    return counts()[a[0]];
                case 14:
                    index(a[0], 5);
                    index(a[1], 5);
                    argument(a[2] >= 0 && a[2] <= 99999);
                    return a[0] == a[1] ? a[2] : worth(a[2], rate[a[0]][a[1]]).divide(TEN_THOUSAND).intValueExact();
                case 15:
                    index(a[0], 5);
                    index(a[1], 5);
                    argument(a[0] != a[1] && a[2] >= 0 && a[2] <= 99999);
                    return way(a[0], a[1], a[2]);
                case 16:
                    index(a[0], 5);
                    argument(a[1] >= 0 && a[1] <= 99999);
                    return ring(a[0], a[1]);
                case 17: case 27:
                    index(a[0], 5);
                    index(a[1], 5);
                    argument(a[0] != a[1]);
                    return needs(a[0], a[1]);
                case 18:
                    index(a[0], 5);
                    return purses.isEmpty() ? 0.0 : (double) told(a[0])[4] / purses.size();
                default:
                    return digest();
            }
        }

        private static void index(int value, int bound) {
            if (value < 0 || value >= bound) {
                throw new IndexOutOfBoundsException();
            }
        }

        private static void argument(boolean good) {
            if (!good) {
                throw new IllegalArgumentException();
            }
        }

        private static void named(int amount) {
            argument(amount >= 1 && amount <= 99999);
        }

        private static void state(boolean good) {
            if (!good) {
                throw new IllegalStateException();
            }
        }

        private BigInteger worth(long amount, int atRate) {
            return BigInteger.valueOf(amount).multiply(BigInteger.valueOf(atRate))
                    .multiply(BigInteger.valueOf(100 - spread));
        }

        private boolean can(int customer, int from, int to, int amount, int atRate) {
            BigInteger gives = worth(amount, atRate).divide(TEN_THOUSAND);
            return atRate != 0 && amount >= 1 && purses.get(customer)[from] >= amount && gives.signum() > 0
                    && gives.compareTo(BigInteger.valueOf(stock[to])) <= 0
                    && gives.add(BigInteger.valueOf(given[to])).compareTo(BigInteger.valueOf(limit[to])) <= 0;
        }

        private int make(int customer, int from, int to, int amount) {
            BigInteger[] parts = worth(amount, rate[from][to]).divideAndRemainder(TEN_THOUSAND);
            int gives = parts[0].intValueExact();
            int[] purse = purses.get(customer);
            purse[from] -= amount;
            purse[to] = Math.min(999999, purse[to] + gives);
            stock[from] = Math.min(999999, stock[from] + amount);
            stock[to] -= gives;
            given[to] += gives;
            dust[to] += parts[1].intValueExact();
            while (dust[to] >= 10000) {
                dust[to] -= 10000;
                stock[to] = Math.min(999999, stock[to] + 1);
            }
            changes++;
            return gives;
        }

        private int look() {
            int doneNow = 0;
            for (int[] o : new ArrayList<>(orders)) {
                int r = rate[o[1]][o[2]];
                if (can(o[0], o[1], o[2], o[3], r)
                        && worth(o[3], r).compareTo(BigInteger.valueOf(10000L * o[4])) >= 0) {
                    make(o[0], o[1], o[2], o[3]);
                    orders.remove(o);
                    doneNow++;
                }
            }
            done += doneNow;
            return doneNow;
        }

        private BigInteger behind(List<Integer> line, long amount) {
            BigInteger there = BigInteger.valueOf(amount);
            for (int i = 1; i < line.size(); i++) {
                int r = rate[line.get(i - 1)][line.get(i)];
                if (r == 0) {
                    return BigInteger.ZERO;
                }
                there = worth(there.longValueExact(), r).divide(TEN_THOUSAND).min(MOST_INT);
            }
            return there;
        }

        private int way(int from, int to, int amount) {
            BigInteger most = BigInteger.ZERO;
            for (List<Integer> line : LINES) {
                if (line.get(0) == from && line.get(line.size() - 1) == to) {
                    most = most.max(behind(line, amount));
                }
            }
            return most.intValueExact();
        }

        private int ring(int money, int amount) {
            BigInteger most = BigInteger.valueOf(amount);
            for (List<Integer> line : LINES) {
                if (line.get(0) == money && line.size() >= 2) {
                    List<Integer> closed = new ArrayList<>(line);
                    closed.add(money);
                    most = most.max(behind(closed, amount));
                }
            }
            return most.intValueExact() - amount;
        }

        private int needs(int from, int to) {
            for (int[] o : orders) {
                if (o[1] == from && o[2] == to) {
                    for (int r = 1; r <= 9999; r++) {
                        if (worth(o[3], r).compareTo(BigInteger.valueOf(10000L * o[4])) >= 0
                                && can(o[0], from, to, o[3], r)) {
                            return r;
                        }
                    }
                    return -1;
                }
            }
            return -1;
        }

        private int[] told(int money) {
            int all = 0;
            for (int[] purse : purses) {
                all += purse[money];
            }
            return new int[] {stock[money], dust[money], limit[money], given[money], all};
        }

        private int[] counts() {
            int rates = 0;
            for (int[] row : rate) {
                for (int r : row) {
                    rates += r != 0 ? 1 : 0;
                }
            }
            return new int[] {day, spread, purses.size(), orders.size(), rates, changes, done};
        }

        private long digest() {
            long d = digest(1367, counts());
            for (int money = 0; money < 5; money++) {
                d = digest(digest(d, told(money)), rate[money]);
            }
            for (int[] purse : purses) {
                d = digest(d, purse);
            }
            for (int[] o : orders) {
                d = digest(d, o);
            }
            return d;
        }

        private static long digest(long d, int[] numbers) {
            for (int x : numbers) {
                d = d * 31 + x;
            }
            return d;
        }
    }
}
