/** A test for each sentence of the promises 12 to 15 that names a boundary case: what is there. */
public final class TellingTest {
    public static void main(String[] args) {
        Sentences.play(TellingTest.class);
    }

    // ---- has

    @Sentence(of = "Promise 12", words = "Returns how much this one has of it.")
    @Fault(in = "inPurse", from = "purses[customer * MONEYS + money]", to = "purses[money * MONEYS + customer]")
    @Fault(in = "inPurse", from = "purses[customer * MONEYS + money]",
            to = "Math.min(999998, purses[customer * MONEYS + money])")
    @Fault(in = "inPurse", from = "purses[customer * MONEYS + money]", to = "purses[customer * 4 + money]")
    static void hasReturns(Check check) {
        MoneyBooth x = Booths.withCustomers(6);
        check.is("nothing at first", 0, x.has(5, 4));
        for (int purse = 0; purse < 30; purse++) {
            x.earn(purse / 5, purse % 5, 100 + purse);
        }
        for (int purse = 0; purse < 30; purse++) {
            check.is("has", 100 + purse, x.has(purse / 5, purse % 5));
        }
        Booths.fillPurse(x, 5, 4);
        check.is("as much as can be", 999999, x.has(5, 4));
        check.is("another one", 123, x.has(4, 3));
    }

    @Sentence(of = "Promise 12", words = "Throws `IndexOutOfBoundsException` if there is no such customer, or money is "
            + "not 0 to 4")
    @Fault(in = "has", from = "!isCustomer(customer) ||", to = "")
    @Fault(in = "has", from = "!isCustomer(customer)", to = "customer < 0 || customer > 5")
    @Fault(in = "has", from = "|| !isMoney(money)", to = "")
    @Fault(in = "has", from = "!isMoney(money)", to = "!isMoney(money) || money == 4")
    @Fault(in = "isCustomer", from = "customer >= 0", to = "customer >= -1")
    @Fault(in = "isCustomer", from = "customer >= 0", to = "customer >= 1")
    @Fault(in = "isCustomer", from = "customer < customers", to = "customer <= customers")
    static void hasNoOne(Check check) {
        MoneyBooth none = new MoneyBooth();
        check.refused(none, "nobody is there", Booths.NO_SUCH, () -> none.has(0, 0));
        MoneyBooth x = Booths.withCustomers(3);
        for (int out : new int[] {-1, 3, 5, 6, Integer.MIN_VALUE, Integer.MAX_VALUE}) {
            check.refused(x, "has(" + out + ", 0)", Booths.NO_SUCH, () -> x.has(out, 0));
        }
        for (int out : Booths.OUTSIDE) {
            check.refused(x, "has(1, " + out + ")", Booths.NO_SUCH, () -> x.has(1, out));
        }
        check.is("has(0, 0)", 0, x.has(0, 0));
        check.is("has(2, 4)", 0, x.has(2, 4));
        MoneyBooth full = Booths.withCustomers(6);
        check.refused(full, "has(6, 0)", Booths.NO_SUCH, () -> full.has(6, 0));
        check.is("has(5, 4)", 0, full.has(5, 4));
    }

    // ---- told

    @Sentence(of = "Promise 13", words = "0 its stock, 1 its dust, 2 its limit, 3 how much of it was given in this day, "
            + "4 how much of it all customers have, added")
    @Fault(in = "factOfMoney", from = "case 0: return stocks", to = "case 0: return dusts")
    @Fault(in = "factOfMoney", from = "case 1: return dusts[money]", to = "case 1: return dusts[money] / 100")
    @Fault(in = "factOfMoney", from = "case 2: return limits[money]",
            to = "case 2: return limits[money] - givenToday[money]")
    @Fault(in = "factOfMoney", from = "case 3: return givenToday", to = "case 3: return limits")
    @Fault(in = "factOfMoney", from = "default: return inAllPurses(money)", to = "default: return inPurse(0, money)")
    @Fault(in = "inAllPurses", from = "int customer = 0", to = "int customer = 1")
    @Fault(in = "inAllPurses", from = "customer < customers", to = "customer < customers - 1")
    @Fault(in = "inAllPurses", from = "return sum", to = "return heldAtMost(sum)")
    static void toldTells(Check check) {
        MoneyBooth x = Booths.withCustomers(6);
        x.setRate(2, 3, 133);
        x.setLimit(3, 444);
        x.earn(0, 3, 700);
        x.earn(5, 3, 50);
        x.earn(5, 2, 300);
        x.change(5, 2, 3, 1);
        int[] three = {999, 3300, 444, 1, 751};
        int[] two = {1001, 0, 9999, 0, 299};
        for (int what = 0; what < 5; what++) {
            check.is("told(3, " + what + ")", three[what], x.told(3, what));
            check.is("told(2, " + what + ")", two[what], x.told(2, what));
        }
        x.next();
        check.is("nothing was given on the next day", 0, x.told(3, 3));
        check.is("without customers", 0, new MoneyBooth().told(0, 4));
        for (int customer = 0; customer < 6; customer++) {
            Booths.fillPurse(x, customer, 4);
        }
        check.is("six full purses", 5999994, x.told(4, 4));
    }

    @Sentence(of = "Promise 13", words = "Returns this.")
    @Fault(in = "factOfMoney", from = "case 0: return stocks[money]",
            to = "case 0: return Math.min(stocks[money], 999998)")
    @Fault(in = "factOfMoney", from = "case 1: return dusts[money]", to = "case 1: return Math.min(dusts[money], 9998)")
    @Fault(in = "factOfMoney", from = "case 2: return limits[money]",
            to = "case 2: return Math.min(limits[money], 99998)")
    @Fault(in = "factOfMoney", from = "case 3: return givenToday[money]",
            to = "case 3: return Math.min(givenToday[money], 99998)")
    @Fault(in = "factOfMoney", from = "case 0: return stocks[money]", to = "case 0: return Math.max(stocks[money], 1)")
    @Fault(in = "factOfMoney", from = "case 2: return limits[money]", to = "case 2: return Math.max(limits[money], 1)")
    static void toldReturns(Check check) {
        MoneyBooth x = Booths.richIn(1);
        x.change(0, 0, 1, 99999);
        check.is("the most that is given in a day", 99999, x.told(1, 3));
        check.is("the highest limit", 99999, x.told(1, 2));
        Booths.fillStock(x, 1);
        check.is("a full stock", 999999, x.told(1, 0));
        x.change(0, 1, 2, 1000);
        check.is("an empty stock", 0, x.told(2, 0));
        x.setLimit(2, 0);
        check.is("no limit at all", 0, x.told(2, 2));
        x.setSpread(1);
        x.setRate(1, 3, 273);
        x.change(0, 1, 3, 37);
        check.is("the most dust", 9999, x.told(3, 1));
    }

    @Sentence(of = "Promise 13", words = "Throws `IndexOutOfBoundsException` if money is not 0 to 4, or what is not 0 "
            + "to 4")
    @Fault(in = "told", from = "!isMoney(money) ||", to = "")
    @Fault(in = "told", from = "!isMoney(money)", to = "!isMoney(money) || money == 0")
    @Fault(in = "told", from = "what < 0 ||", to = "")
    @Fault(in = "told", from = "|| what >= TOLD", to = "")
    @Fault(in = "told", from = "what < 0", to = "what < 1")
    @Fault(in = "told", from = "what >= TOLD", to = "what > TOLD")
    @Fault(in = "told", from = "what >= TOLD", to = "what >= TOLD - 1")
    static void toldNoSuch(Check check) {
        MoneyBooth x = Booths.evenBooth();
        for (int out : Booths.OUTSIDE) {
            check.refused(x, "told(" + out + ", 0)", Booths.NO_SUCH, () -> x.told(out, 0));
            check.refused(x, "told(0, " + out + ")", Booths.NO_SUCH, () -> x.told(0, out));
        }
        check.is("told(0, 0)", 1000, x.told(0, 0));
        check.is("told(4, 4)", 99999, x.told(4, 4));
    }

    // ---- about

    @Sentence(of = "Promise 14", words = "a place among the waiting orders, from 0")
    @Fault(in = "about", from = "orderPart(place, what)", to = "orderPart(place - 1, what)")
    @Fault(in = "about", from = "orderPart(place, what)", to = "orderPart(Math.min(place, 8), what)")
    @Fault(in = "isPlace", from = "place >= 0", to = "place >= 1")
    static void aboutFromNone(Check check) {
        MoneyBooth x = Booths.withCustomers(1);
        for (int order = 0; order < 10; order++) {
            x.order(0, 0, 1, 50 + order, 60);
        }
        for (int place = 0; place < 10; place++) {
            check.is("about(" + place + ", 3)", 50 + place, x.about(place, 3));
        }
    }

    @Sentence(of = "Promise 14", words = "0 its customer, 1 the money that is paid, 2 the one that is given, 3 its "
            + "amount, 4 what it asks for")
    @Fault(from = "ORDER_CUSTOMER = 0;", to = "ORDER_CUSTOMER = 1;")
    @Fault(in = "order", from = "ORDER_FROM, from", to = "ORDER_FROM, to")
    @Fault(in = "order", from = "ORDER_TO, to", to = "ORDER_TO, from")
    @Fault(in = "order", from = "ORDER_AMOUNT, amount", to = "ORDER_AMOUNT, asks")
    @Fault(in = "order", from = "ORDER_ASKS, asks", to = "ORDER_ASKS, amount")
    static void aboutTells(Check check) {
        MoneyBooth x = Booths.withCustomers(6);
        x.order(5, 4, 0, 99999, 1);
        x.order(1, 2, 3, 1, 99999);
        int[] first = {5, 4, 0, 99999, 1};
        int[] second = {1, 2, 3, 1, 99999};
        for (int what = 0; what < 5; what++) {
            check.is("about(0, " + what + ")", first[what], x.about(0, what));
            check.is("about(1, " + what + ")", second[what], x.about(1, what));
        }
    }

    @Sentence(of = "Promise 14", words = "Returns this.")
    @Fault(in = "about", from = "return orderPart(place, what)", to = "return Math.min(99998, orderPart(place, what))")
    @Fault(in = "about", from = "return orderPart(place, what)", to = "return Math.max(1, orderPart(place, what))")
    @Fault(in = "moveOrder", from = "part < ORDER_PARTS", to = "part < ORDER_PARTS - 1")
    static void aboutReturns(Check check) {
        MoneyBooth x = Booths.withCustomers(2);
        x.order(1, 1, 2, 5, 6);
        x.order(0, 0, 4, 99999, 99999);
        x.cancel(0);
        int[] parts = {0, 0, 4, 99999, 99999};
        for (int what = 0; what < 5; what++) {
            check.is("about(0, " + what + ")", parts[what], x.about(0, what));
        }
    }

    @Sentence(of = "Promise 14", words = "Throws `IndexOutOfBoundsException` if there is no such place, or what is not "
            + "0 to 4")
    @Fault(in = "about", from = "!isPlace(place) ||", to = "")
    @Fault(in = "about", from = "!isPlace(place)", to = "place < 0 || place >= MOST_ORDERS")
    @Fault(in = "about", from = "!isPlace(place)", to = "place < 0 || place > waiting")
    @Fault(in = "about", from = "what < 0 ||", to = "")
    @Fault(in = "about", from = "|| what >= ORDER_PARTS", to = "")
    @Fault(in = "about", from = "what < 0", to = "what < 1")
    @Fault(in = "about", from = "what >= ORDER_PARTS", to = "what > ORDER_PARTS")
    @Fault(in = "about", from = "what >= ORDER_PARTS", to = "what >= ORDER_PARTS - 1")
    static void aboutNoSuch(Check check) {
        MoneyBooth none = Booths.withCustomers(1);
        check.refused(none, "none waits", Booths.NO_SUCH, () -> none.about(0, 0));
        MoneyBooth x = Booths.withOrders(3);
        for (int out : new int[] {-1, 3, 9, 10, Integer.MIN_VALUE, Integer.MAX_VALUE}) {
            check.refused(x, "about(" + out + ", 0)", Booths.NO_SUCH, () -> x.about(out, 0));
        }
        for (int out : Booths.OUTSIDE) {
            check.refused(x, "about(0, " + out + ")", Booths.NO_SUCH, () -> x.about(0, out));
        }
        check.is("about(0, 0)", 0, x.about(0, 0));
        check.is("about(2, 4)", 10, x.about(2, 4));
        MoneyBooth full = Booths.withOrders(10);
        check.refused(full, "about(10, 0)", Booths.NO_SUCH, () -> full.about(10, 0));
        check.is("about(9, 4)", 10, full.about(9, 4));
        full.next();
        check.refused(full, "all were done", Booths.NO_SUCH, () -> full.about(0, 0));
    }

    // ---- count

    @Sentence(of = "Promise 15", words = "0 the day, 1 the spread, 2 customers, 3 waiting orders, 4 rates that are not "
            + "0, 5 changes in all (by orders, too), 6 orders that were done in all")
    @Fault(in = "factOfBooth", from = "case 0: return day", to = "case 0: return spread")
    @Fault(in = "factOfBooth", from = "case 1: return spread", to = "case 1: return day")
    @Fault(in = "factOfBooth", from = "case 2: return customers", to = "case 2: return waiting")
    @Fault(in = "factOfBooth", from = "case 3: return waiting", to = "case 3: return waiting + ordersDone")
    @Fault(in = "factOfBooth", from = "case 5: return changesMade", to = "case 5: return changesMade - ordersDone")
    @Fault(in = "factOfBooth", from = "default: return ordersDone", to = "default: return changesMade")
    @Fault(in = "ratesThatAreNotZero", from = "rates[cell] != 0", to = "rates[cell] > 1")
    @Fault(in = "ratesThatAreNotZero", from = "rates[cell] != 0", to = "true")
    static void countTells(Check check) {
        MoneyBooth x = Booths.withCustomers(4);
        x.earn(3, 0, 100);
        x.setRate(0, 1, 200);
        x.setRate(1, 0, 1);
        x.setRate(2, 0, 5);
        x.setRate(2, 0, 0);
        x.change(3, 0, 1, 1);
        x.order(3, 0, 1, 1, 1);
        x.order(3, 0, 1, 1, 99);
        x.order(3, 0, 1, 1, 98);
        x.next();
        x.setSpread(7);
        x.cancel(0);
        x.order(3, 0, 1, 1, 98);
        x.order(3, 0, 1, 1, 98);
        int[] counts = {1, 7, 4, 3, 2, 2, 1};
        for (int what = 0; what < 7; what++) {
            check.is("count(" + what + ")", counts[what], x.count(what));
        }
    }

    @Sentence(of = "Promise 15", words = "Returns this.")
    @Fault(in = "ratesThatAreNotZero", from = "cell < rates.length", to = "cell < rates.length - 2")
    @Fault(in = "ratesThatAreNotZero", from = "int cell = 0", to = "int cell = 2")
    @Fault(in = "count", from = "return factOfBooth(what)", to = "return Math.min(19, factOfBooth(what))")
    @Fault(in = "count", from = "return factOfBooth(what)", to = "return Math.max(1, factOfBooth(what))")
    static void countReturns(Check check) {
        MoneyBooth x = Booths.withOrders(10);
        for (int more = 1; more < 6; more++) {
            x.come();
        }
        int[] full = {0, 0, 6, 10, 20, 0, 0};
        for (int what = 0; what < 7; what++) {
            check.is("count(" + what + ")", full[what], x.count(what));
        }
        x.setSpread(50);
        check.is("the highest spread", 50, x.count(1));
        x.setSpread(0);
        int[] done = {0, 0, 6, 0, 20, 10, 10};
        for (int what = 0; what < 7; what++) {
            check.is("count(" + what + ")", done[what], x.count(what));
        }
    }

    @Sentence(of = "Promise 15", words = "Throws `IndexOutOfBoundsException` if what is not 0 to 6")
    @Fault(in = "count", from = "what < 0 ||", to = "")
    @Fault(in = "count", from = "|| what >= COUNTS", to = "")
    @Fault(in = "count", from = "what < 0", to = "what < 1")
    @Fault(in = "count", from = "what >= COUNTS", to = "what > COUNTS")
    @Fault(in = "count", from = "what >= COUNTS", to = "what >= COUNTS - 1")
    static void countNoSuch(Check check) {
        MoneyBooth x = Booths.withOrders(1);
        for (int out : new int[] {-1, 7, Integer.MIN_VALUE, Integer.MAX_VALUE}) {
            check.refused(x, "count(" + out + ")", Booths.NO_SUCH, () -> x.count(out));
        }
        x.next();
        check.is("count(0)", 1, x.count(0));
        check.is("count(6)", 1, x.count(6));
    }
}
