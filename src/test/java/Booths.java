import java.math.BigInteger;
import java.util.ArrayList;
import java.util.List;

/** What the tests have in common: booths to begin with, and arguments that no call takes. */
final class Booths {
    static final Class<IndexOutOfBoundsException> NO_SUCH = IndexOutOfBoundsException.class;
    static final Class<IllegalArgumentException> BAD = IllegalArgumentException.class;
    static final Class<IllegalStateException> NOT_NOW = IllegalStateException.class;

    /** What is no money, and nothing that a call with five answers tells. */
    static final int[] OUTSIDE = {-1, 5, Integer.MIN_VALUE, Integer.MAX_VALUE};
    /** What is no amount from 1 on. */
    static final int[] NO_AMOUNT = {0, -1, 100000, Integer.MIN_VALUE, Integer.MAX_VALUE};
    /** What is no amount from 0 on, and no limit. */
    static final int[] NOT_EVEN_NONE = {-1, 100000, Integer.MIN_VALUE, Integer.MAX_VALUE};

    private Booths() {
    }

    static MoneyBooth withCustomers(int customers) {
        MoneyBooth x = new MoneyBooth();
        for (int i = 0; i < customers; i++) {
            x.come();
        }
        return x;
    }

    /** One customer with 99999 of each money, and a rate of 100 from each money to each other one. */
    static MoneyBooth evenBooth() {
        MoneyBooth x = withCustomers(1);
        for (int money = 0; money < 5; money++) {
            x.earn(0, money, 99999);
            for (int to = 0; to < 5; to++) {
                if (money != to) {
                    x.setRate(money, to, 100);
                }
            }
        }
        return x;
    }

    /** The even booth with 100999 in stock and a limit of 99999 for the one money. */
    static MoneyBooth richIn(int money) {
        MoneyBooth x = evenBooth();
        x.stock(money, 99999);
        x.setLimit(money, 99999);
        return x;
    }

    /** One with orders of one and the same kind: 10 of money 0 for at least 10 of money 1, by customer 0. */
    static MoneyBooth withOrders(int orders) {
        MoneyBooth x = evenBooth();
        for (int i = 0; i < orders; i++) {
            x.order(0, 0, 1, 10, 10);
        }
        return x;
    }

    static void fillPurse(MoneyBooth x, int customer, int money) {
        for (int i = 0; i < 11; i++) {
            x.earn(customer, money, 99999);
        }
    }

    static void fillStock(MoneyBooth x, int money) {
        for (int i = 0; i < 10; i++) {
            x.stock(money, 99999);
        }
    }

    /** The digest as the document words it, out of what the other calls tell; rates show as what 10000 brings. */
    static long reckonedDigest(MoneyBooth x) {
        List<Integer> numbers = new ArrayList<>();
        for (int what = 0; what <= 6; what++) {
            numbers.add(x.count(what));
        }
        for (int money = 0; money <= 4; money++) {
            for (int what = 0; what <= 4; what++) {
                numbers.add(x.told(money, what));
            }
            for (int to = 0; to <= 4; to++) {
                numbers.add(money == to ? 0 : rate(x, money, to));
            }
        }
        for (int customer = 0; customer < x.count(2); customer++) {
            for (int money = 0; money <= 4; money++) {
                numbers.add(x.has(customer, money));
            }
        }
        for (int place = 0; place < x.count(3); place++) {
            for (int what = 0; what <= 4; what++) {
                numbers.add(x.about(place, what));
            }
        }
        BigInteger d = BigInteger.valueOf(1367);
        for (int number : numbers) {
            d = d.multiply(BigInteger.valueOf(31)).add(BigInteger.valueOf(number));
        }
        return d.longValue();
    }

    /** 10000 at a rate r bring r * (100 - spread), and no whole one is cut from that. */
    private static int rate(MoneyBooth x, int from, int to) {
        return x.would(from, to, 10000) / (100 - x.count(1));
    }
}
