import java.util.Arrays;
import java.util.List;

/** Plays long runs of calls against the second reckoning of Model. */
public final class ModelTest {
    private static final int RUNS = 700;
    /** Every third call is followed by a digest; an object has 512 calls in all. */
    private static final int CALLS = 384;
    /** Ahead of the others these are more likely, so that there is something to look at. */
    private static final Kind[] AT_FIRST = {Kind.SET_RATE, Kind.COME, Kind.EARN, Kind.EARN, Kind.STOCK};
    private static final Kind[] OFTEN = {Kind.SET_RATE, Kind.CHANGE, Kind.CHANGE, Kind.CHANGE, Kind.ORDER, Kind.ORDER,
            Kind.ORDER, Kind.NEEDS};
    private static final Check CHECK = new Check();

    private long seed = 20261119;

    public static void main(String[] args) {
        ModelTest test = new ModelTest();
        for (int run = 0; run < RUNS; run++) {
            test.play(run);
        }
        CHECK.end();
    }

    private void play(int run) {
        Model m = new Model();
        MoneyBooth x = new MoneyBooth();
        boolean even = below(3) == 0;
        for (int call = 0; call < CALLS; call++) {
            Kind kind = call < 60 && below(2) == 0 ? AT_FIRST[below(AT_FIRST.length)] : kind(even);
            int[] a = arguments(kind, m);
            String name = "run " + run + ", call " + call + ": " + kind + Arrays.toString(a);
            String want = Kind.answer(() -> m.call(kind, a));
            String got = Kind.answer(() -> kind.call(x, a));
            CHECK.holds(name + " answered " + got + ", due is " + want, got.equals(want));
            if (call % 3 == 2) {
                CHECK.holds(name + ": digest()", m.digest() == x.digest());
            }
        }
    }

    private Kind kind(boolean even) {
        List<Kind> kinds = List.of(Kind.values());
        int chosen = below(even ? kinds.size() : kinds.size() + OFTEN.length);
        return chosen < kinds.size() ? kinds.get(chosen) : OFTEN[chosen - kinds.size()];
    }

    private int below(int bound) {
        seed = seed * 6364136223846793005L + 1442695040888963407L;
        return (int) ((seed >>> 33) % bound);
    }

    private int oneOf(int... values) {
        return values[below(values.length)];
    }

    private int[] arguments(Kind kind, Model m) {
        int[] a = new int[kind.parts.length];
        for (int i = 0; i < a.length; i++) {
            a[i] = kind.parts[i] == Kind.Part.ASKS ? asks(a[i - 1]) : argument(kind.parts[i], m);
        }
        return a;
    }

    private int argument(Kind.Part part, Model m) {
        int customers = m.purses.size();
        int orders = m.orders.size();
        switch (part) {
            case MONEY: return below(40) == 0 ? oneOf(-1, 5, Integer.MAX_VALUE, Integer.MIN_VALUE) : below(5);
            case CUSTOMER:
                return below(40) == 0 ? oneOf(-1, 6, customers, Integer.MIN_VALUE) : below(Math.max(1, customers));
            case PLACE: return below(10) == 0 ? oneOf(-1, 10, orders, Integer.MAX_VALUE) : below(Math.max(1, orders));
            case WHAT: return below(9) - 1;
            case RATE: return rate();
            case SPREAD: return below(10) == 0 ? oneOf(-1, 50, 51) : below(20);
            case LIMIT: return below(3) == 0 ? amount() : 9000 + below(90999);
            default: return amount();
        }
    }

    private int amount() {
        switch (below(8)) {
            case 0: return oneOf(-1, 0, 1, 99999, 100000, Integer.MAX_VALUE, Integer.MIN_VALUE);
            case 1: return 1 + below(99999);
            case 2: return 1 + below(10);
            default: return 1 + below(900);
        }
    }

    private int asks(int amount) {
        if (below(3) == 0) {
            return amount();
        }
        return amount > 0 && amount < 900 ? amount * (60 + below(60)) / 100 : 1;
    }

    private int rate() {
        switch (below(8)) {
            case 0: return oneOf(-1, 0, 0, 1, 9999, 10000, Integer.MAX_VALUE);
            case 1: return below(10000);
            default: return 60 + below(90);
        }
    }
}
