/** An exchange booth of five moneys. */
public final class MoneyBooth {
    private static final int MONEYS = 5;
    private static final int MOST_CUSTOMERS = 6;
    private static final int MOST_ORDERS = 10;
    private static final int ORDER_PARTS = 5;
    private static final int COUNTS = 7;
    private static final int TOLD = 5;

    private static final int ORDER_CUSTOMER = 0;
    private static final int ORDER_FROM = 1;
    private static final int ORDER_TO = 2;
    private static final int ORDER_AMOUNT = 3;
    private static final int ORDER_ASKS = 4;

    private static final int MOST_RATE = 9999;
    private static final int MOST_SPREAD = 50;
    private static final int MOST_HELD = 999999;
    private static final int MOST_NAMED = 99999;
    private static final int FIRST_STOCK = 1000;
    private static final int FIRST_LIMIT = 9999;
    private static final int DUST_OF_ONE = 10000;
    private static final int WHOLE_PERCENT = 100;
    private static final long MOST_BEHIND_A_CHANGE = 2147483647L;
    private static final int LONGEST_WAY = 4;
    private static final int LONGEST_RING = 5;

    private final int[] rates = new int[MONEYS * MONEYS];
    private final int[] stocks = new int[MONEYS];
    private final int[] dusts = new int[MONEYS];
    private final int[] limits = new int[MONEYS];
    private final int[] givenToday = new int[MONEYS];
    private final int[] purses = new int[MOST_CUSTOMERS * MONEYS];
    private final int[] orders = new int[MOST_ORDERS * ORDER_PARTS];
    private int day;
    private int spread;
    private int customers;
    private int waiting;
    private int changesMade;
    private int ordersDone;

    public MoneyBooth() {
        for (int money = 0; money < MONEYS; money++) {
            stocks[money] = FIRST_STOCK;
            limits[money] = FIRST_LIMIT;
        }
    }

    // ---- the booth

    public int setRate(int from, int to, int rate) throws IndexOutOfBoundsException, IllegalArgumentException {
        if (!isMoney(from) || !isMoney(to)) {
            throw new IndexOutOfBoundsException("no such money");
        }
        if (from == to || rate < 0 || rate > MOST_RATE) {
            throw new IllegalArgumentException("the moneys are the same or the rate is not 0 to 9999");
        }
        rates[from * MONEYS + to] = rate;
        return lookAtOrders();
    }

    public int setSpread(int spread) throws IllegalArgumentException {
        if (spread < 0 || spread > MOST_SPREAD) {
            throw new IllegalArgumentException("the spread is not 0 to 50");
        }
        this.spread = spread;
        return lookAtOrders();
    }

    public int setLimit(int money, int most) throws IndexOutOfBoundsException, IllegalArgumentException {
        if (!isMoney(money)) {
            throw new IndexOutOfBoundsException("no such money");
        }
        if (most < 0 || most > MOST_NAMED) {
            throw new IllegalArgumentException("the limit is not 0 to 99999");
        }
        int before = limits[money];
        limits[money] = most;
        return before;
    }

    public int stock(int money, int more) throws IndexOutOfBoundsException, IllegalArgumentException {
        if (!isMoney(money)) {
            throw new IndexOutOfBoundsException("no such money");
        }
        if (!isNamedAmount(more)) {
            throw new IllegalArgumentException("what comes is not 1 to 99999");
        }
        stocks[money] = heldAtMost(stocks[money] + more);
        return stocks[money];
    }

    public int next() {
        day++;
        for (int money = 0; money < MONEYS; money++) {
            givenToday[money] = 0;
        }
        return lookAtOrders();
    }

    // ---- customers and orders

    public int come() throws IllegalStateException {
        if (customers >= MOST_CUSTOMERS) {
            throw new IllegalStateException("there are 6 customers");
        }
        customers++;
        return customers - 1;
    }

    public int earn(int customer, int money, int more) throws IndexOutOfBoundsException, IllegalArgumentException {
        if (!isCustomer(customer) || !isMoney(money)) {
            throw new IndexOutOfBoundsException("no such customer or money");
        }
        if (!isNamedAmount(more)) {
            throw new IllegalArgumentException("what is earned is not 1 to 99999");
        }
        int purse = customer * MONEYS + money;
        purses[purse] = heldAtMost(purses[purse] + more);
        return purses[purse];
    }

    public int change(int customer, int from, int to, int amount)
            throws IndexOutOfBoundsException, IllegalStateException {
        if (!isCustomer(customer) || !isMoney(from) || !isMoney(to)) {
            throw new IndexOutOfBoundsException("no such customer or money");
        }
        int given = changeIfPossible(customer, from, to, amount, 1);
        if (given == 0) {
            throw new IllegalStateException("this can not be changed");
        }
        return given;
    }

    public int order(int customer, int from, int to, int amount, int asks)
            throws IndexOutOfBoundsException, IllegalArgumentException, IllegalStateException {
        if (!isCustomer(customer) || !isMoney(from) || !isMoney(to)) {
            throw new IndexOutOfBoundsException("no such customer or money");
        }
        if (from == to || !isNamedAmount(amount) || !isNamedAmount(asks)) {
            throw new IllegalArgumentException("the moneys are the same or an amount is not 1 to 99999");
        }
        if (waiting >= MOST_ORDERS) {
            throw new IllegalStateException("10 orders wait");
        }
        setOrderPart(waiting, ORDER_CUSTOMER, customer);
        setOrderPart(waiting, ORDER_FROM, from);
        setOrderPart(waiting, ORDER_TO, to);
        setOrderPart(waiting, ORDER_AMOUNT, amount);
        setOrderPart(waiting, ORDER_ASKS, asks);
        waiting++;
        return waiting;
    }

    public int cancel(int place) throws IndexOutOfBoundsException {
        if (!isPlace(place)) {
            throw new IndexOutOfBoundsException("no such place");
        }
        int customer = orderPart(place, ORDER_CUSTOMER);
        for (int behind = place + 1; behind < waiting; behind++) {
            moveOrder(behind, behind - 1);
        }
        waiting--;
        return customer;
    }

    // ---- what is there

    public int has(int customer, int money) throws IndexOutOfBoundsException {
        if (!isCustomer(customer) || !isMoney(money)) {
            throw new IndexOutOfBoundsException("no such customer or money");
        }
        return inPurse(customer, money);
    }

    public int told(int money, int what) throws IndexOutOfBoundsException {
        if (!isMoney(money) || what < 0 || what >= TOLD) {
            throw new IndexOutOfBoundsException("no such money or nothing to tell");
        }
        return factOfMoney(money, what);
    }

    public int about(int place, int what) throws IndexOutOfBoundsException {
        if (!isPlace(place) || what < 0 || what >= ORDER_PARTS) {
            throw new IndexOutOfBoundsException("no such place or nothing to tell");
        }
        return orderPart(place, what);
    }

    public int count(int what) throws IndexOutOfBoundsException {
        if (what < 0 || what >= COUNTS) {
            throw new IndexOutOfBoundsException("nothing to count");
        }
        return factOfBooth(what);
    }

    // ---- what would be

    public int would(int from, int to, int amount) throws IndexOutOfBoundsException, IllegalArgumentException {
        if (!isMoney(from) || !isMoney(to)) {
            throw new IndexOutOfBoundsException("no such money");
        }
        if (!isAmountOrNone(amount)) {
            throw new IllegalArgumentException("the amount is not 0 to 99999");
        }
        if (from == to) {
            return amount;
        }
        return (int) wholeOnes(tenthousandths(from, to, amount));
    }

    public int way(int from, int to, int amount) throws IndexOutOfBoundsException, IllegalArgumentException {
        if (!isMoney(from) || !isMoney(to)) {
            throw new IndexOutOfBoundsException("no such money");
        }
        if (from == to || !isAmountOrNone(amount)) {
            throw new IllegalArgumentException("the moneys are the same or the amount is not 0 to 99999");
        }
        return (int) mostAtGoal(from, to, amount, bit(from) | bit(to), LONGEST_WAY);
    }

    public int ring(int money, int amount) throws IndexOutOfBoundsException, IllegalArgumentException {
        if (!isMoney(money)) {
            throw new IndexOutOfBoundsException("no such money");
        }
        if (!isAmountOrNone(amount)) {
            throw new IllegalArgumentException("the amount is not 0 to 99999");
        }
        long most = mostAtGoal(money, money, amount, bit(money), LONGEST_RING);
        return most > amount ? (int) (most - amount) : 0;
    }

    public int needs(int from, int to) throws IndexOutOfBoundsException, IllegalArgumentException {
        if (!isMoney(from) || !isMoney(to)) {
            throw new IndexOutOfBoundsException("no such money");
        }
        if (from == to) {
            throw new IllegalArgumentException("the moneys are the same");
        }
        int place = firstOrderPlace(from, to);
        return place < 0 ? -1 : leastRateFor(place);
    }

    public double mean(int money) throws IndexOutOfBoundsException {
        if (!isMoney(money)) {
            throw new IndexOutOfBoundsException("no such money");
        }
        if (customers <= 0) {
            return 0;
        }
        return (double) inAllPurses(money) / customers;
    }

    public long digest() {
        long d = 1367;
        for (int what = 0; what < COUNTS; what++) {
            d = d * 31 + factOfBooth(what);
        }
        d = digestOfMoneys(d);
        for (int customer = 0; customer < customers; customer++) {
            for (int money = 0; money < MONEYS; money++) {
                d = d * 31 + inPurse(customer, money);
            }
        }
        for (int place = 0; place < waiting; place++) {
            for (int part = 0; part < ORDER_PARTS; part++) {
                d = d * 31 + orderPart(place, part);
            }
        }
        return d;
    }

    private long digestOfMoneys(long start) {
        long d = start;
        for (int money = 0; money < MONEYS; money++) {
            for (int what = 0; what < TOLD; what++) {
                d = d * 31 + factOfMoney(money, what);
            }
            for (int to = 0; to < MONEYS; to++) {
                d = d * 31 + rateOf(money, to);
            }
        }
        return d;
    }

    // ---- what is allowed as an argument

    private static boolean isMoney(int money) {
        return money >= 0 && money < MONEYS;
    }

    private boolean isCustomer(int customer) {
        return customer >= 0 && customer < customers && customer < MOST_CUSTOMERS;
    }

    private boolean isPlace(int place) {
        return place >= 0 && place < waiting && place < MOST_ORDERS;
    }

    private static boolean isNamedAmount(int amount) {
        return amount >= 1 && amount <= MOST_NAMED;
    }

    private static boolean isAmountOrNone(int amount) {
        return amount == 0 || isNamedAmount(amount);
    }

    // ---- what the rows hold

    private int rateOf(int from, int to) {
        return isMoney(from) && isMoney(to) ? rates[from * MONEYS + to] : 0;
    }

    private int ratesThatAreNotZero() {
        int found = 0;
        for (int cell = 0; cell < rates.length; cell++) {
            if (rates[cell] != 0) {
                found++;
            }
        }
        return found;
    }

    private int inPurse(int customer, int money) {
        return isCustomer(customer) && isMoney(money) ? purses[customer * MONEYS + money] : 0;
    }

    private int inAllPurses(int money) {
        int sum = 0;
        for (int customer = 0; customer < customers; customer++) {
            sum += inPurse(customer, money);
        }
        return sum;
    }

    private int factOfMoney(int money, int what) {
        if (!isMoney(money)) {
            return 0;
        }
        switch (what) {
            case 0: return stocks[money];
            case 1: return dusts[money];
            case 2: return limits[money];
            case 3: return givenToday[money];
            default: return inAllPurses(money);
        }
    }

    private int factOfBooth(int what) {
        switch (what) {
            case 0: return day;
            case 1: return spread;
            case 2: return customers;
            case 3: return waiting;
            case 4: return ratesThatAreNotZero();
            case 5: return changesMade;
            default: return ordersDone;
        }
    }

    private static int heldAtMost(long held) {
        return (int) Math.min(held, MOST_HELD);
    }

    // ---- the rows of the waiting orders

    private static boolean isOrderCell(int place, int part) {
        return place >= 0 && place < MOST_ORDERS && part >= 0 && part < ORDER_PARTS;
    }

    private int orderPart(int place, int part) {
        return isOrderCell(place, part) ? orders[place * ORDER_PARTS + part] : 0;
    }

    private void setOrderPart(int place, int part, int value) {
        if (isOrderCell(place, part)) {
            orders[place * ORDER_PARTS + part] = value;
        }
    }

    private void moveOrder(int fromPlace, int toPlace) {
        for (int part = 0; part < ORDER_PARTS; part++) {
            setOrderPart(toPlace, part, orderPart(fromPlace, part));
        }
    }

    private int firstOrderPlace(int from, int to) {
        for (int place = 0; place < waiting; place++) {
            if (orderPart(place, ORDER_FROM) == from && orderPart(place, ORDER_TO) == to) {
                return place;
            }
        }
        return -1;
    }

    /** Answers how many are done; those that stay close ranks in the same pass, which keeps their order. */
    private int lookAtOrders() {
        int kept = 0;
        for (int place = 0; place < waiting; place++) {
            if (!doneIfPossible(place)) {
                moveOrder(place, kept);
                kept++;
            }
        }
        int done = waiting - kept;
        waiting = kept;
        ordersDone += done;
        return done;
    }

    private boolean doneIfPossible(int place) {
        int given = changeIfPossible(orderPart(place, ORDER_CUSTOMER), orderPart(place, ORDER_FROM),
                orderPart(place, ORDER_TO), orderPart(place, ORDER_AMOUNT), orderPart(place, ORDER_ASKS));
        return given != 0;
    }

    // ---- changes

    // A long throughout: an amount of seven digits at a high rate leaves the range of int.
    private long tenthousandths(int from, int to, long amount) {
        return amount * rateOf(from, to) * (WHOLE_PERCENT - spread);
    }

    private static long wholeOnes(long tenthousandths) {
        return tenthousandths / DUST_OF_ONE;
    }

    /** Answers what is given; 0, with nothing changed, if it can not be done or gives less than is asked for. */
    private int changeIfPossible(int customer, int from, int to, int amount, int asks) {
        if (!isCustomer(customer) || !isMoney(from) || !isMoney(to) || from == to) {
            return 0;
        }
        long worth = tenthousandths(from, to, amount);
        long given = wholeOnes(worth);
        if (given < asks || !isAllowed(inPurse(customer, from), to, amount, given)) {
            return 0;
        }
        int paying = customer * MONEYS + from;
        int getting = customer * MONEYS + to;
        purses[paying] -= amount;
        purses[getting] = heldAtMost(purses[getting] + given);
        stocks[from] = heldAtMost((long) stocks[from] + amount);
        stocks[to] -= (int) given;
        givenToday[to] += (int) given;
        changesMade++;
        keepDust(to, (int) (worth % DUST_OF_ONE));
        return (int) given;
    }

    private boolean isAllowed(int purse, int to, int amount, long given) {
        return isMoney(to)
                && amount >= 1 && amount <= purse
                && given >= 1 && given <= stocks[to]
                && givenToday[to] + given <= limits[to];
    }

    private void keepDust(int money, int more) {
        if (!isMoney(money)) {
            return;
        }
        int dust = dusts[money] + more;
        stocks[money] = heldAtMost(stocks[money] + dust / DUST_OF_ONE);
        dusts[money] = dust % DUST_OF_ONE;
    }

    private int leastRateFor(int place) {
        int amount = orderPart(place, ORDER_AMOUNT);
        long asksWorth = (long) orderPart(place, ORDER_ASKS) * DUST_OF_ONE;
        long worthOfOneRate = (long) amount * (WHOLE_PERCENT - spread);
        if (worthOfOneRate < 1) {
            return -1;
        }
        long rate = (asksWorth + worthOfOneRate - 1) / worthOfOneRate;
        if (rate > MOST_RATE) {
            return -1;
        }
        // A higher rate only gives more, so what stock and limit refuse here they refuse there too.
        long given = wholeOnes(worthOfOneRate * rate);
        int purse = inPurse(orderPart(place, ORDER_CUSTOMER), orderPart(place, ORDER_FROM));
        return isAllowed(purse, orderPart(place, ORDER_TO), amount, given) ? (int) rate : -1;
    }

    // ---- ways and rings

    private static int bit(int money) {
        return isMoney(money) ? 1 << money : 0;
    }

    private long behindOneChange(int from, int to, long amount) {
        return Math.min(wholeOnes(tenthousandths(from, to, amount)), MOST_BEHIND_A_CHANGE);
    }

    /**
     * Answers the most that an amount of one money brings at the goal by changes over moneys not yet visited,
     * 0 if no way leads there: a rate of 0 brings 0, so it needs no test of its own.
     */
    private long mostAtGoal(int at, int goal, long amount, int visited, int changesLeft) {
        if (changesLeft < 1) {
            return 0;
        }
        long most = behindOneChange(at, goal, amount);
        for (int over = 0; over < MONEYS; over++) {
            if ((visited & bit(over)) == 0) {
                most = Math.max(most, mostOver(at, over, goal, amount, visited, changesLeft));
            }
        }
        return most;
    }

    private long mostOver(int at, int over, int goal, long amount, int visited, int changesLeft) {
        long there = behindOneChange(at, over, amount);
        return mostAtGoal(over, goal, there, visited | bit(over), changesLeft - 1);
    }
}
