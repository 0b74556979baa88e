/** A test for each sentence of the promises 7 to 11 that names a boundary case: customers and orders. */
public final class CustomersTest {
    public static void main(String[] args) {
        Sentences.play(CustomersTest.class);
    }

    // ---- come

    @Sentence(of = "Promise 7", words = "Returns the number of a new customer.")
    @Fault(in = "come", from = "return customers - 1", to = "return customers")
    @Fault(in = "come", from = "return customers - 1", to = "return 0")
    @Fault(in = "come", from = "customers++;\n        return customers - 1;", to = "return customers;")
    static void comeReturns(Check check) {
        MoneyBooth x = new MoneyBooth();
        for (int number = 0; number < 6; number++) {
            int next = number;
            check.refused(x, "not there yet", Booths.NO_SUCH, () -> x.has(next, 0));
            check.is("come()", number, x.come());
            check.is("count(2)", number + 1, x.count(2));
            check.is("has nothing", 0, x.has(number, 4));
        }
    }

    @Sentence(of = "Promise 7", words = "Throws `IllegalStateException` if there are 6")
    @Fault(from = "MOST_CUSTOMERS = 6;", to = "MOST_CUSTOMERS = 5;")
    @Fault(in = "come", from = "customers >= MOST_CUSTOMERS", to = "customers > MOST_CUSTOMERS")
    @Fault(in = "come", from = "customers >= MOST_CUSTOMERS", to = "customers >= MOST_CUSTOMERS - 1")
    @Fault(in = "come", from = "IllegalStateException(\"", to = "IndexOutOfBoundsException(\"")
    static void noSeventhComes(Check check) {
        MoneyBooth x = Booths.withCustomers(5);
        check.is("the sixth", 5, x.come());
        check.refused(x, "a seventh", Booths.NOT_NOW, () -> x.come());
        check.refused(x, "a seventh", Booths.NOT_NOW, () -> x.come());
        check.is("count(2)", 6, x.count(2));
        check.refused(x, "has(6, 0)", Booths.NO_SUCH, () -> x.has(6, 0));
    }

    // ---- earn

    @Sentence(of = "Promise 8", words = "Returns how much this one has of it then, at most 999999.")
    @Fault(in = "earn", from = "heldAtMost(purses[purse] + more)", to = "purses[purse] + more")
    @Fault(in = "earn", from = "heldAtMost(purses[purse] + more)", to = "Math.min(purses[purse] + more, 999998)")
    @Fault(in = "earn", from = "purses[purse] = heldAtMost(purses[purse] + more);",
            to = "if (purses[purse] + more <= MOST_HELD) { purses[purse] += more; }")
    @Fault(in = "earn", from = "return purses[purse]", to = "return more")
    @Fault(in = "earn", from = "return purses[purse]", to = "stocks[money] += more; return purses[purse]")
    static void earnReturns(Check check) {
        MoneyBooth x = Booths.withCustomers(2);
        check.is("earn(1, 3, 1)", 1, x.earn(1, 3, 1));
        for (int times = 1; times <= 10; times++) {
            check.is("earn(1, 3, 99999)", 1 + 99999 * times, x.earn(1, 3, 99999));
        }
        check.is("one below", 999998, x.earn(1, 3, 7));
        check.is("two more, one is lost", 999999, x.earn(1, 3, 2));
        check.is("all is lost", 999999, x.earn(1, 3, 99999));
        check.is("has(1, 3)", 999999, x.has(1, 3));
        for (int times = 1; times <= 10; times++) {
            x.earn(1, 4, 99999);
        }
        check.is("just full", 999999, x.earn(1, 4, 9));
        check.is("has(0, 3)", 0, x.has(0, 3));
        check.is("has(1, 2)", 0, x.has(1, 2));
        check.is("told(3, 0)", 1000, x.told(3, 0));
    }

    @Sentence(of = "Promise 8", words = "Throws `IndexOutOfBoundsException` if there is no such customer, or money is "
            + "not 0 to 4")
    @Fault(in = "earn", from = "!isCustomer(customer) ||", to = "")
    @Fault(in = "earn", from = "!isCustomer(customer)", to = "customer < 0 || customer > 5")
    @Fault(in = "earn", from = "|| !isMoney(money)", to = "")
    @Fault(in = "earn", from = "!isMoney(money)", to = "money < 0")
    @Fault(in = "earn", from = "!isMoney(money)", to = "money > 4")
    @Fault(in = "earn", from = "!isMoney(money)", to = "!isMoney(money) || money == 4")
    @Fault(in = "isCustomer", from = "customer < customers", to = "customer <= customers")
    static void earnOfNoOne(Check check) {
        MoneyBooth none = new MoneyBooth();
        check.refused(none, "nobody is there", Booths.NO_SUCH, () -> none.earn(0, 0, 1));
        MoneyBooth x = Booths.withCustomers(2);
        for (int out : new int[] {-1, 2, 5, 6, Integer.MIN_VALUE, Integer.MAX_VALUE}) {
            check.refused(x, "earn(" + out + ", 1, 1)", Booths.NO_SUCH, () -> x.earn(out, 1, 1));
        }
        for (int out : Booths.OUTSIDE) {
            check.refused(x, "earn(1, " + out + ", 1)", Booths.NO_SUCH, () -> x.earn(1, out, 1));
        }
        check.is("earn(0, 4, 1)", 1, x.earn(0, 4, 1));
        check.is("earn(1, 0, 1)", 1, x.earn(1, 0, 1));
        MoneyBooth full = Booths.withCustomers(6);
        check.is("earn(5, 4, 1)", 1, full.earn(5, 4, 1));
        check.refused(full, "earn(6, 0, 1)", Booths.NO_SUCH, () -> full.earn(6, 0, 1));
    }

    @Sentence(of = "Promise 8", words = "Throws `IllegalArgumentException` if more is not 1 to 99999")
    @Fault(in = "earn", from = "!isNamedAmount(more)", to = "more < 1")
    @Fault(in = "earn", from = "!isNamedAmount(more)", to = "more > 99999")
    @Fault(in = "earn", from = "!isNamedAmount(more)", to = "!isAmountOrNone(more)")
    @Fault(in = "earn", from = "!isNamedAmount(more)", to = "more < 1 || more > 100000")
    @Fault(in = "earn", from = "!isNamedAmount(more)", to = "more < 1 || more > 99998")
    @Fault(in = "earn", from = "!isNamedAmount(more)", to = "more < 2 || more > 99999")
    static void earnOfBadAmount(Check check) {
        MoneyBooth x = Booths.withCustomers(1);
        for (int more : Booths.NO_AMOUNT) {
            check.refused(x, "earn(0, 1, " + more + ")", Booths.BAD, () -> x.earn(0, 1, more));
        }
        check.is("earn(0, 1, 1)", 1, x.earn(0, 1, 1));
        check.is("earn(0, 1, 99999)", 100000, x.earn(0, 1, 99999));
    }

    // ---- change

    @Sentence(of = "Promise 9", words = "Changes an amount.")
    @Fault(in = "changeIfPossible", from = "changesMade++;", to = "")
    @Fault(in = "changeIfPossible", from = "changesMade++;", to = "changesMade++; ordersDone++;")
    @Fault(in = "changeIfPossible", from = "givenToday[to] +=", to = "givenToday[from] +=")
    @Fault(in = "changeIfPossible", from = "int getting = customer", to = "int getting = 0")
    static void changeChanges(Check check) {
        MoneyBooth x = Booths.withCustomers(6);
        x.setRate(4, 0, 150);
        x.earn(5, 4, 7);
        x.change(5, 4, 0, 7);
        check.is("has(5, 4)", 0, x.has(5, 4));
        check.is("has(5, 0)", 10, x.has(5, 0));
        check.is("has(0, 0)", 0, x.has(0, 0));
        int[] paid = {1007, 0, 9999, 0, 0};
        int[] given = {990, 5000, 9999, 10, 10};
        for (int what = 0; what < 5; what++) {
            check.is("told(4, " + what + ")", paid[what], x.told(4, what));
            check.is("told(0, " + what + ")", given[what], x.told(0, what));
        }
        check.is("count(5)", 1, x.count(5));
        check.is("count(6)", 0, x.count(6));
    }

    @Sentence(of = "Promise 9", words = "Returns how much is given.")
    @Fault(in = "change", from = "return given", to = "return amount")
    @Fault(in = "change", from = "return given", to = "return inPurse(customer, to)")
    @Fault(in = "change", from = "return given", to = "return Math.min(given, 9999)")
    static void changeReturns(Check check) {
        MoneyBooth x = Booths.richIn(1);
        x.setRate(0, 1, 9999);
        check.is("99.99", 99, x.change(0, 0, 1, 1));
        x.setRate(0, 1, 1);
        check.is("the least", 1, x.change(0, 0, 1, 100));
        x.setRate(0, 1, 100);
        check.is("all of the purse", 99898, x.change(0, 0, 1, 99898));
        x.next();
        Booths.fillPurse(x, 0, 1);
        check.is("what is lost was given, too", 5, x.change(0, 2, 1, 5));
    }

    @Sentence(of = "Promise 9", words = "Throws `IndexOutOfBoundsException` if there is no such customer, or from or "
            + "to is not 0 to 4")
    @Fault(in = "change", from = "!isCustomer(customer) ||", to = "")
    @Fault(in = "change", from = "!isCustomer(customer)", to = "customer < 0 || customer > 5")
    @Fault(in = "change", from = "!isMoney(from) ||", to = "")
    @Fault(in = "change", from = "|| !isMoney(to)", to = "")
    @Fault(in = "change", from = "!isMoney(to)", to = "!isMoney(to) || to == 4")
    @Fault(in = "change", from = "!isMoney(from)", to = "!isMoney(from) || from == 4")
    @Fault(in = "isCustomer", from = "customer < customers", to = "customer <= customers")
    @Fault(in = "isCustomer", from = "customer < customers", to = "customer < customers - 1")
    static void changeOfNoOne(Check check) {
        MoneyBooth none = new MoneyBooth();
        check.refused(none, "nobody is there", Booths.NO_SUCH, () -> none.change(0, 0, 1, 1));
        MoneyBooth x = Booths.evenBooth();
        for (int out : new int[] {-1, 1, 5, 6, Integer.MIN_VALUE, Integer.MAX_VALUE}) {
            check.refused(x, "change(" + out + ", 0, 1, 1)", Booths.NO_SUCH, () -> x.change(out, 0, 1, 1));
        }
        for (int out : Booths.OUTSIDE) {
            check.refused(x, "change(0, " + out + ", 1, 1)", Booths.NO_SUCH, () -> x.change(0, out, 1, 1));
            check.refused(x, "change(0, 1, " + out + ", 1)", Booths.NO_SUCH, () -> x.change(0, 1, out, 1));
        }
        check.is("change(0, 0, 4, 1)", 1, x.change(0, 0, 4, 1));
        check.is("change(0, 4, 0, 1)", 1, x.change(0, 4, 0, 1));
    }

    @Sentence(of = "Promise 9", words = "Throws `IllegalStateException` if both are the same, or it cannot be done")
    @Fault(in = "change", from = "int given = changeIfPossible(customer, from, to, amount, 1);",
            to = "if (from == to) { return amount; } int given = changeIfPossible(customer, from, to, amount, 1);")
    @Fault(in = "change", from = "int given = changeIfPossible(customer, from, to, amount, 1);",
            to = "int given = Math.max(1, changeIfPossible(customer, from, to, amount, 1));")
    @Fault(in = "change", from = "IllegalStateException(\"", to = "IllegalArgumentException(\"")
    static void changeNotNow(Check check) {
        MoneyBooth x = Booths.evenBooth();
        for (int money = 0; money < 5; money++) {
            int same = money;
            check.refused(x, "change of the same", Booths.NOT_NOW, () -> x.change(0, same, same, 1));
        }
        x.setLimit(2, 5);
        x.setRate(0, 3, 0);
        x.setRate(0, 4, 99);
        check.refused(x, "rate 0", Booths.NOT_NOW, () -> x.change(0, 0, 3, 1));
        check.refused(x, "amount 0", Booths.NOT_NOW, () -> x.change(0, 0, 1, 0));
        check.refused(x, "amount -1", Booths.NOT_NOW, () -> x.change(0, 0, 1, -1));
        check.refused(x, "nothing to give", Booths.NOT_NOW, () -> x.change(0, 0, 4, 1));
        check.refused(x, "the stock", Booths.NOT_NOW, () -> x.change(0, 0, 1, 1001));
        check.refused(x, "the limit", Booths.NOT_NOW, () -> x.change(0, 0, 2, 6));
        x.setRate(0, 1, 1);
        check.refused(x, "the purse", Booths.NOT_NOW, () -> x.change(0, 0, 1, 100000));
        check.is("all of the purse", 999, x.change(0, 0, 1, 99999));
        check.is("all of the limit", 5, x.change(0, 1, 2, 5));
    }

    // ---- order

    @Sentence(of = "Promise 10", words = "Gives an order; it waits, and is not looked at at once.")
    @Fault(in = "order", from = "return waiting", to = "lookAtOrders(); return waiting")
    @Fault(in = "order", from = "waiting++;", to = "if (!doneIfPossible(waiting)) { waiting++; }")
    @Fault(in = "order", from = "waiting++;", to = "waiting++; purses[0] -= amount;")
    static void orderWaits(Check check) {
        MoneyBooth x = Booths.evenBooth();
        x.order(0, 0, 1, 10, 10);
        check.is("count(3)", 1, x.count(3));
        check.is("count(6)", 0, x.count(6));
        check.is("has(0, 0)", 99999, x.has(0, 0));
        check.is("has(0, 1)", 99999, x.has(0, 1));
        check.is("told(1, 0)", 1000, x.told(1, 0));
        check.is("one that nobody can pay, at no rate", 2, Booths.withOrders(1).order(0, 3, 2, 99999, 99999));
    }

    @Sentence(of = "Promise 10", words = "Returns how many orders wait then.")
    @Fault(in = "order", from = "return waiting", to = "return waiting - 1")
    @Fault(in = "order", from = "return waiting", to = "return waiting + ordersDone")
    @Fault(in = "cancel", from = "waiting--;", to = "")
    static void orderReturns(Check check) {
        MoneyBooth x = Booths.evenBooth();
        for (int order = 1; order <= 10; order++) {
            check.is("order", order, x.order(0, 0, 1, 1, 2 - order % 2));
        }
        x.cancel(0);
        check.is("in the place of one taken back", 10, x.order(0, 0, 1, 1, 2));
        check.is("four are done", 4, x.next());
        check.is("behind six", 7, x.order(0, 0, 1, 1, 2));
    }

    @Sentence(of = "Promise 10", words = "Throws `IndexOutOfBoundsException` if there is no such customer, or from or "
            + "to is not 0 to 4")
    @Fault(in = "order", from = "!isCustomer(customer) ||", to = "")
    @Fault(in = "order", from = "!isCustomer(customer)", to = "customer < 0 || customer > 5")
    @Fault(in = "order", from = "!isMoney(from) ||", to = "")
    @Fault(in = "order", from = "|| !isMoney(to)", to = "")
    @Fault(in = "order", from = "!isMoney(to)", to = "!isMoney(to) || to == 4")
    @Fault(in = "order", from = "!isMoney(from)", to = "!isMoney(from) || from == 0")
    @Fault(in = "isCustomer", from = "customer < customers", to = "customer <= customers")
    static void orderOfNoOne(Check check) {
        MoneyBooth none = new MoneyBooth();
        check.refused(none, "nobody is there", Booths.NO_SUCH, () -> none.order(0, 0, 1, 1, 1));
        MoneyBooth x = Booths.withCustomers(5);
        for (int out : new int[] {-1, 5, 6, Integer.MIN_VALUE, Integer.MAX_VALUE}) {
            check.refused(x, "order(" + out + ", 0, 1, 1, 1)", Booths.NO_SUCH, () -> x.order(out, 0, 1, 1, 1));
        }
        for (int out : Booths.OUTSIDE) {
            check.refused(x, "order(0, " + out + ", 1, 1, 1)", Booths.NO_SUCH, () -> x.order(0, out, 1, 1, 1));
            check.refused(x, "order(0, 1, " + out + ", 1, 1)", Booths.NO_SUCH, () -> x.order(0, 1, out, 1, 1));
        }
        check.is("order(0, 0, 4, 1, 1)", 1, x.order(0, 0, 4, 1, 1));
        check.is("order(4, 4, 0, 1, 1)", 2, x.order(4, 4, 0, 1, 1));
    }

    @Sentence(of = "Promise 10", words = "Throws `IllegalArgumentException` if both are the same, or amount or asks is "
            + "not 1 to 99999")
    @Fault(in = "order", from = "from == to ||", to = "")
    @Fault(in = "order", from = "!isNamedAmount(amount) ||", to = "")
    @Fault(in = "order", from = "|| !isNamedAmount(asks)", to = "")
    @Fault(in = "order", from = "!isNamedAmount(amount)", to = "!isAmountOrNone(amount)")
    @Fault(in = "order", from = "!isNamedAmount(asks)", to = "!isAmountOrNone(asks)")
    @Fault(in = "order", from = "!isNamedAmount(amount)", to = "amount < 1")
    @Fault(in = "order", from = "!isNamedAmount(asks)", to = "asks < 1")
    @Fault(in = "order", from = "!isNamedAmount(amount)", to = "amount < 2 || amount > 99999")
    @Fault(in = "order", from = "!isNamedAmount(asks)", to = "asks < 1 || asks >= 99999")
    @Fault(in = "isNamedAmount", from = "amount <= MOST_NAMED", to = "amount <= MOST_NAMED + 1")
    static void orderOfBadAmount(Check check) {
        MoneyBooth x = Booths.withCustomers(1);
        for (int money = 0; money < 5; money++) {
            int same = money;
            check.refused(x, "order of the same", Booths.BAD, () -> x.order(0, same, same, 1, 1));
        }
        for (int bad : Booths.NO_AMOUNT) {
            check.refused(x, "order(0, 0, 1, " + bad + ", 1)", Booths.BAD, () -> x.order(0, 0, 1, bad, 1));
            check.refused(x, "order(0, 0, 1, 1, " + bad + ")", Booths.BAD, () -> x.order(0, 0, 1, 1, bad));
        }
        check.is("order(0, 0, 1, 1, 99999)", 1, x.order(0, 0, 1, 1, 99999));
        check.is("order(0, 0, 1, 99999, 1)", 2, x.order(0, 0, 1, 99999, 1));
    }

    @Sentence(of = "Promise 10", words = "Throws `IllegalStateException` if 10 wait")
    @Fault(from = "MOST_ORDERS = 10;", to = "MOST_ORDERS = 9;")
    @Fault(in = "order", from = "waiting >= MOST_ORDERS", to = "waiting > MOST_ORDERS")
    @Fault(in = "order", from = "waiting >= MOST_ORDERS", to = "waiting >= MOST_ORDERS - 1")
    @Fault(in = "order", from = "waiting >= MOST_ORDERS", to = "waiting + ordersDone >= MOST_ORDERS")
    @Fault(in = "order", from = "IllegalStateException(\"", to = "IllegalArgumentException(\"")
    static void noEleventhWaits(Check check) {
        MoneyBooth x = Booths.withOrders(9);
        check.is("the tenth", 10, x.order(0, 0, 1, 10, 10));
        check.refused(x, "an eleventh", Booths.NOT_NOW, () -> x.order(0, 0, 1, 10, 10));
        check.is("all are done", 10, x.next());
        for (int order = 1; order <= 10; order++) {
            check.is("ten more", order, x.order(0, 2, 1, 10, 10));
        }
        check.refused(x, "an eleventh", Booths.NOT_NOW, () -> x.order(0, 0, 1, 10, 10));
    }

    // ---- cancel

    @Sentence(of = "Promise 11", words = "Takes a waiting order back.")
    @Fault(in = "cancel", from = "moveOrder(behind, behind - 1);", to = "")
    @Fault(in = "cancel", from = "behind = place + 1; behind < waiting",
            to = "behind = place + 1; behind < waiting - 1")
    @Fault(in = "cancel", from = "behind = place + 1", to = "behind = place + 2")
    @Fault(in = "cancel", from = "waiting--;", to = "waiting--; ordersDone++;")
    static void cancelTakesBack(Check check) {
        for (int place = 0; place < 10; place++) {
            MoneyBooth x = Booths.withCustomers(6);
            for (int order = 0; order < 10; order++) {
                x.order(order % 6, order % 5, (order + 1) % 5, 10 + order, 20 + order);
            }
            x.cancel(place);
            check.is("nine wait", 9, x.count(3));
            check.is("none was done", 0, x.count(6));
            for (int left = 0; left < 9; left++) {
                int order = left < place ? left : left + 1;
                check.is("whose it is", order % 6, x.about(left, 0));
                check.is("what is paid", order % 5, x.about(left, 1));
                check.is("what is given", (order + 1) % 5, x.about(left, 2));
                check.is("its amount", 10 + order, x.about(left, 3));
                check.is("what it asks for", 20 + order, x.about(left, 4));
            }
        }
        MoneyBooth one = Booths.withOrders(1);
        one.cancel(0);
        check.is("it is not done any more", 0, one.next());
    }

    @Sentence(of = "Promise 11", words = "its place among those that wait, from 0")
    @Fault(in = "cancel", from = "int customer = orderPart(place", to = "int customer = orderPart(place - 1")
    @Fault(in = "isPlace", from = "place >= 0", to = "place >= 1")
    static void cancelFromNone(Check check) {
        MoneyBooth x = Booths.withCustomers(3);
        for (int order = 0; order < 3; order++) {
            x.order(2 - order, 0, 1, 1, 1);
        }
        check.is("the last one", 0, x.cancel(2));
        check.is("the first one", 2, x.cancel(0));
        check.is("places have moved", 1, x.cancel(0));
    }

    @Sentence(of = "Promise 11", words = "Returns its customer.")
    @Fault(in = "cancel", from = "return customer", to = "return orderPart(place, ORDER_CUSTOMER)")
    @Fault(in = "cancel", from = "return customer", to = "return waiting")
    static void cancelReturns(Check check) {
        MoneyBooth x = Booths.withCustomers(6);
        for (int order = 0; order < 10; order++) {
            x.order((order + 3) % 6, 0, 1, 1, 1);
        }
        for (int place = 9; place >= 5; place--) {
            check.is("cancel(" + place + ")", (place + 3) % 6, x.cancel(place));
        }
        for (int order = 0; order < 5; order++) {
            check.is("cancel(0)", (order + 3) % 6, x.cancel(0));
        }
    }

    @Sentence(of = "Promise 11", words = "Throws `IndexOutOfBoundsException` if there is no such place")
    @Fault(in = "cancel", from = "!isPlace(place)", to = "place >= waiting")
    @Fault(in = "cancel", from = "!isPlace(place)", to = "place < 0 || place >= MOST_ORDERS")
    @Fault(in = "cancel", from = "!isPlace(place)", to = "place < 0 || place > waiting")
    @Fault(in = "isPlace", from = "place < waiting", to = "place < waiting - 1")
    static void cancelOfNoPlace(Check check) {
        MoneyBooth none = Booths.withCustomers(1);
        check.refused(none, "none waits", Booths.NO_SUCH, () -> none.cancel(0));
        MoneyBooth x = Booths.withOrders(2);
        for (int out : new int[] {-1, 2, 9, 10, Integer.MIN_VALUE, Integer.MAX_VALUE}) {
            check.refused(x, "cancel(" + out + ")", Booths.NO_SUCH, () -> x.cancel(out));
        }
        check.is("cancel(1)", 0, x.cancel(1));
        check.refused(x, "cancel(1)", Booths.NO_SUCH, () -> x.cancel(1));
        x.next();
        check.refused(x, "the last one was done", Booths.NO_SUCH, () -> x.cancel(0));
        MoneyBooth full = Booths.withOrders(10);
        check.refused(full, "cancel(10)", Booths.NO_SUCH, () -> full.cancel(10));
        check.is("cancel(9)", 0, full.cancel(9));
    }
}
