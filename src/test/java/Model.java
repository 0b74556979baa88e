import java.math.BigInteger;
import java.util.ArrayList;
import java.util.Arrays;
import java.util.List;

/**
 * A slow second reckoning of the document, made the other way round where it can be: ways and rings by listing all
 * orders of moneys, needs by trying each rate, amounts as BigInteger.
 */
final class Model {
    private static final BigInteger TEN_THOUSAND = BigInteger.valueOf(10000);
    private static final BigInteger MOST_INT = BigInteger.valueOf(Integer.MAX_VALUE);
    private static final List<List<Integer>> LINES = new ArrayList<>();

    static {
        addLines(new ArrayList<>());
    }

    private final int[][] rate = new int[5][5];
    private final int[] stock = {1000, 1000, 1000, 1000, 1000};
    private final int[] dust = new int[5];
    private final int[] limit = {9999, 9999, 9999, 9999, 9999};
    private final int[] given = new int[5];
    final List<int[]> purses = new ArrayList<>();
    final List<int[]> orders = new ArrayList<>();
    private int day;
    private int spread;
    private int changes;
    private int done;

    /** All lines of one to five different moneys. */
    private static void addLines(List<Integer> line) {
        for (int money = 0; money < 5; money++) {
            if (!line.contains(money)) {
                List<Integer> longer = new ArrayList<>(line);
                longer.add(money);
                LINES.add(longer);
                addLines(longer);
            }
        }
    }

    Object call(Kind kind, int[] a) {
        switch (kind) {
            case SET_RATE:
                index(a[0], 5);
                index(a[1], 5);
                argument(a[0] != a[1] && a[2] >= 0 && a[2] <= 9999);
                rate[a[0]][a[1]] = a[2];
                return look();
            case SET_SPREAD:
                argument(a[0] >= 0 && a[0] <= 50);
                spread = a[0];
                return look();
            case SET_LIMIT: {
                index(a[0], 5);
                argument(a[1] >= 0 && a[1] <= 99999);
                int before = limit[a[0]];
                limit[a[0]] = a[1];
                return before;
            }
            case STOCK:
                index(a[0], 5);
                named(a[1]);
                return stock[a[0]] = Math.min(999999, stock[a[0]] + a[1]);
            case NEXT:
                day++;
                Arrays.fill(given, 0);
                return look();
            case COME:
                state(purses.size() < 6);
                purses.add(new int[5]);
                return purses.size() - 1;
            case EARN:
                index(a[0], purses.size());
                index(a[1], 5);
                named(a[2]);
                return purses.get(a[0])[a[1]] = Math.min(999999, purses.get(a[0])[a[1]] + a[2]);
            case CHANGE:
                index(a[0], purses.size());
                index(a[1], 5);
                index(a[2], 5);
                state(a[1] != a[2] && can(a[0], a[1], a[2], a[3], rate[a[1]][a[2]]));
                return make(a[0], a[1], a[2], a[3]);
            case ORDER:
                index(a[0], purses.size());
                index(a[1], 5);
                index(a[2], 5);
                argument(a[1] != a[2]);
                named(a[3]);
                named(a[4]);
                state(orders.size() < 10);
                orders.add(a.clone());
                return orders.size();
            case CANCEL:
                index(a[0], orders.size());
                return orders.remove(a[0])[0];
            default:
                return look(kind, a);
        }
    }

    private Object look(Kind kind, int[] a) {
        switch (kind) {
            case HAS:
                index(a[0], purses.size());
                index(a[1], 5);
                return purses.get(a[0])[a[1]];
            case TOLD:
                index(a[0], 5);
                index(a[1], 5);
                return told(a[0])[a[1]];
            case ABOUT:
                index(a[0], orders.size());
                index(a[1], 5);
                return orders.get(a[0])[a[1]];
            case COUNT:
                index(a[0], 7);
                return counts()[a[0]];
            case WOULD:
                index(a[0], 5);
                index(a[1], 5);
                argument(a[2] >= 0 && a[2] <= 99999);
                return a[0] == a[1] ? a[2] : worth(a[2], rate[a[0]][a[1]]).divide(TEN_THOUSAND).intValueExact();
            case WAY:
                index(a[0], 5);
                index(a[1], 5);
                argument(a[0] != a[1] && a[2] >= 0 && a[2] <= 99999);
                return way(a[0], a[1], a[2]);
            case RING:
                index(a[0], 5);
                argument(a[1] >= 0 && a[1] <= 99999);
                return ring(a[0], a[1]);
            case NEEDS:
                index(a[0], 5);
                index(a[1], 5);
                argument(a[0] != a[1]);
                return needs(a[0], a[1]);
            case MEAN:
                index(a[0], 5);
                return purses.isEmpty() ? 0.0 : (double) told(a[0])[4] / purses.size();
            default:
                return digest();
        }
    }

    private static void index(int value, int bound) {
        if (value < 0 || value >= bound) {
            throw new IndexOutOfBoundsException();
        }
    }

    private static void argument(boolean good) {
        if (!good) {
            throw new IllegalArgumentException();
        }
    }

    private static void named(int amount) {
        argument(amount >= 1 && amount <= 99999);
    }

    private static void state(boolean good) {
        if (!good) {
            throw new IllegalStateException();
        }
    }

    private BigInteger worth(long amount, int atRate) {
        return BigInteger.valueOf(amount).multiply(BigInteger.valueOf(atRate))
                .multiply(BigInteger.valueOf(100 - spread));
    }

    private boolean can(int customer, int from, int to, int amount, int atRate) {
        BigInteger gives = worth(amount, atRate).divide(TEN_THOUSAND);
        return atRate != 0 && amount >= 1 && purses.get(customer)[from] >= amount && gives.signum() > 0
                && gives.compareTo(BigInteger.valueOf(stock[to])) <= 0
                && gives.add(BigInteger.valueOf(given[to])).compareTo(BigInteger.valueOf(limit[to])) <= 0;
    }

    private int make(int customer, int from, int to, int amount) {
        BigInteger[] parts = worth(amount, rate[from][to]).divideAndRemainder(TEN_THOUSAND);
        int gives = parts[0].intValueExact();
        int[] purse = purses.get(customer);
        purse[from] -= amount;
        purse[to] = Math.min(999999, purse[to] + gives);
        stock[from] = Math.min(999999, stock[from] + amount);
        stock[to] -= gives;
        given[to] += gives;
        dust[to] += parts[1].intValueExact();
        while (dust[to] >= 10000) {
            dust[to] -= 10000;
            stock[to] = Math.min(999999, stock[to] + 1);
        }
        changes++;
        return gives;
    }

    private int look() {
        int doneNow = 0;
        for (int[] o : new ArrayList<>(orders)) {
            int r = rate[o[1]][o[2]];
            if (can(o[0], o[1], o[2], o[3], r)
                    && worth(o[3], r).compareTo(BigInteger.valueOf(10000L * o[4])) >= 0) {
                make(o[0], o[1], o[2], o[3]);
                orders.remove(o);
                doneNow++;
            }
        }
        done += doneNow;
        return doneNow;
    }

    private BigInteger behind(List<Integer> line, long amount) {
        BigInteger there = BigInteger.valueOf(amount);
        for (int i = 1; i < line.size(); i++) {
            int r = rate[line.get(i - 1)][line.get(i)];
            if (r == 0) {
                return BigInteger.ZERO;
            }
            there = worth(there.longValueExact(), r).divide(TEN_THOUSAND).min(MOST_INT);
        }
        return there;
    }

    private int way(int from, int to, int amount) {
        BigInteger most = BigInteger.ZERO;
        for (List<Integer> line : LINES) {
            if (line.get(0) == from && line.get(line.size() - 1) == to) {
                most = most.max(behind(line, amount));
            }
        }
        return most.intValueExact();
    }

    private int ring(int money, int amount) {
        BigInteger most = BigInteger.valueOf(amount);
        for (List<Integer> line : LINES) {
            if (line.get(0) == money && line.size() >= 2) {
                List<Integer> closed = new ArrayList<>(line);
                closed.add(money);
                most = most.max(behind(closed, amount));
            }
        }
        return most.intValueExact() - amount;
    }

    private int needs(int from, int to) {
        for (int[] o : orders) {
            if (o[1] == from && o[2] == to) {
                for (int r = 1; r <= 9999; r++) {
                    if (worth(o[3], r).compareTo(BigInteger.valueOf(10000L * o[4])) >= 0
                            && can(o[0], from, to, o[3], r)) {
                        return r;
                    }
                }
                return -1;
            }
        }
        return -1;
    }

    private int[] told(int money) {
        int all = 0;
        for (int[] purse : purses) {
            all += purse[money];
        }
        return new int[] {stock[money], dust[money], limit[money], given[money], all};
    }

    private int[] counts() {
        int rates = 0;
        for (int[] row : rate) {
            for (int r : row) {
                rates += r != 0 ? 1 : 0;
            }
        }
        return new int[] {day, spread, purses.size(), orders.size(), rates, changes, done};
    }

    long digest() {
        long d = digest(1367, counts());
        for (int money = 0; money < 5; money++) {
            d = digest(digest(d, told(money)), rate[money]);
        }
        for (int[] purse : purses) {
            d = digest(d, purse);
        }
        for (int[] o : orders) {
            d = digest(d, o);
        }
        return d;
    }

    private static long digest(long d, int[] numbers) {
        for (int x : numbers) {
            d = d * 31 + x;
        }
        return d;
    }
}
