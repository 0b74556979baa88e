import java.util.ArrayList;
import java.util.Arrays;
import java.util.List;

/**
 * Every call with every choice of arguments at the document's bounds and beyond them, on a new booth, on one in use and
 * on a full one, against the second reckoning of Model: what is answered, which exception is first, what is changed.
 */
public final class EdgesTest {
    /** An object has 512 calls in all; one that is asked for edges is made anew before that. */
    private static final int CALLS = 512;
    private static final Check CHECK = new Check();

    public static void main(String[] args) {
        play("new", new Setup());
        play("in use", inUse());
        play("full", full());
        CHECK.end();
    }

    /** The calls that lead to a state. */
    private static final class Setup {
        private final List<Kind> kinds = new ArrayList<>();
        private final List<int[]> arguments = new ArrayList<>();

        void add(Kind kind, int... a) {
            kinds.add(kind);
            arguments.add(a);
        }

        void play(Model m, MoneyBooth x) {
            for (int i = 0; i < kinds.size(); i++) {
                m.call(kinds.get(i), arguments.get(i));
                kinds.get(i).call(x, arguments.get(i));
            }
        }
    }

    private static Setup inUse() {
        Setup setup = new Setup();
        setup.add(Kind.COME);
        setup.add(Kind.COME);
        setup.add(Kind.SET_SPREAD, 3);
        for (int money = 0; money < 5; money++) {
            setup.add(Kind.EARN, 0, money, 99999);
            setup.add(Kind.SET_RATE, money, (money + 1) % 5, 130 + money);
            setup.add(Kind.SET_RATE, (money + 1) % 5, money, 90 - money);
        }
        setup.add(Kind.SET_RATE, 0, 4, 1);
        setup.add(Kind.EARN, 1, 0, 1);
        setup.add(Kind.CHANGE, 0, 0, 1, 33);
        setup.add(Kind.ORDER, 0, 4, 0, 200, 1000);
        setup.add(Kind.ORDER, 0, 0, 4, 100, 1);
        setup.add(Kind.ORDER, 1, 0, 4, 1, 1);
        setup.add(Kind.SET_LIMIT, 4, 1);
        return setup;
    }

    private static Setup full() {
        Setup setup = new Setup();
        for (int customer = 0; customer < 6; customer++) {
            setup.add(Kind.COME);
        }
        for (int times = 0; times < 11; times++) {
            setup.add(Kind.EARN, 0, 0, 99999);
            setup.add(Kind.EARN, 0, 4, 99999);
            setup.add(Kind.EARN, 5, 4, 99999);
            setup.add(Kind.STOCK, 0, 99999);
            setup.add(Kind.STOCK, 4, 99999);
        }
        setup.add(Kind.SET_LIMIT, 0, 99999);
        setup.add(Kind.SET_LIMIT, 4, 99999);
        setup.add(Kind.SET_RATE, 0, 4, 100);
        setup.add(Kind.SET_RATE, 4, 0, 9999);
        setup.add(Kind.SET_RATE, 4, 2, 9999);
        setup.add(Kind.SET_RATE, 2, 0, 9999);
        for (int order = 0; order < 10; order++) {
            setup.add(Kind.ORDER, order % 6, 4 - order % 2 * 4, order % 2 * 4, 1 + order, 99999 - order);
        }
        return setup;
    }

    private static int[] edges(Kind.Part part) {
        switch (part) {
            case MONEY: return new int[] {Integer.MIN_VALUE, -1, 0, 1, 4, 5, Integer.MAX_VALUE};
            case CUSTOMER: return new int[] {Integer.MIN_VALUE, -1, 0, 1, 2, 5, 6, Integer.MAX_VALUE};
            case PLACE: return new int[] {Integer.MIN_VALUE, -1, 0, 2, 3, 9, 10, Integer.MAX_VALUE};
            case WHAT: return new int[] {Integer.MIN_VALUE, -1, 0, 1, 2, 3, 4, 5, 6, 7, Integer.MAX_VALUE};
            case RATE: return new int[] {Integer.MIN_VALUE, -1, 0, 1, 9999, 10000, Integer.MAX_VALUE};
            case SPREAD: return new int[] {Integer.MIN_VALUE, -1, 0, 1, 50, 51, Integer.MAX_VALUE};
            case ASKS: return new int[] {Integer.MIN_VALUE, 0, 1, 99999, 100000};
            default: return new int[] {Integer.MIN_VALUE, -1, 0, 1, 100, 99999, 100000, 999999, Integer.MAX_VALUE};
        }
    }

    private static void play(String state, Setup setup) {
        for (Kind kind : Kind.values()) {
            List<int[]> choices = new ArrayList<>();
            choose(kind, new int[0], choices);
            play(state, setup, kind, choices);
        }
    }

    /** Each choice of one edge for each argument that is not chosen yet. */
    private static void choose(Kind kind, int[] chosen, List<int[]> choices) {
        if (chosen.length == kind.parts.length) {
            choices.add(chosen);
            return;
        }
        for (int edge : edges(kind.parts[chosen.length])) {
            int[] longer = Arrays.copyOf(chosen, chosen.length + 1);
            longer[chosen.length] = edge;
            choose(kind, longer, choices);
        }
    }

    private static void play(String state, Setup setup, Kind kind, List<int[]> choices) {
        Model m = null;
        MoneyBooth x = null;
        int calls = CALLS;
        boolean changed = true;
        for (int[] a : choices) {
            if (changed || calls + 2 > CALLS) {
                m = new Model();
                x = new MoneyBooth();
                setup.play(m, x);
                calls = setup.kinds.size();
            }
            Model model = m;
            MoneyBooth booth = x;
            long before = m.digest();
            String want = Kind.answer(() -> model.call(kind, a));
            String got = Kind.answer(() -> kind.call(booth, a));
            String name = state + ": " + kind + Arrays.toString(a);
            CHECK.holds(name + " answered " + got + ", due is " + want, got.equals(want));
            CHECK.holds(name + ": digest()", m.digest() == x.digest());
            changed = m.digest() != before;
            calls += 2;
        }
    }
}
