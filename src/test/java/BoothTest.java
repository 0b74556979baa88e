/** A test for each sentence of the promises 1 to 6 that names a boundary case: the booth. */
public final class BoothTest {
    public static void main(String[] args) {
        Sentences.play(BoothTest.class);
    }

    // ---- a new object

    @Sentence(of = "Promise 1", words = "Creates a booth without rates and customers, on the day 0.")
    @Fault(in = "MoneyBooth", from = "limits[money] =", to = "rates[23] = 1; limits[money] =")
    @Fault(from = "private int customers;", to = "private int customers = 1;")
    @Fault(from = "private int day;", to = "private int day = 1;")
    @Fault(from = "private int waiting;", to = "private int waiting = 1;")
    static void aNewObject(Check check) {
        MoneyBooth used = Booths.evenBooth();
        used.order(0, 0, 1, 5, 5);
        used.next();
        MoneyBooth x = new MoneyBooth();
        for (int what = 0; what <= 6; what++) {
            check.is("count(" + what + ")", 0, x.count(what));
        }
        check.refused(x, "has(0, 0)", Booths.NO_SUCH, () -> x.has(0, 0));
        check.refused(x, "about(0, 0)", Booths.NO_SUCH, () -> x.about(0, 0));
        for (int pair = 0; pair < 25; pair++) {
            int none = pair % 6 == 0 ? 99999 : 0;
            check.is("would at pair " + pair, none, x.would(pair / 5, pair % 5, 99999));
        }
    }

    // ---- setRate

    @Sentence(of = "Promise 2", words = "the rate from the one to the other one from now on")
    @Fault(in = "setRate", from = "] = rate;", to = "] = Math.max(rates[from * MONEYS + to], rate);")
    @Fault(in = "setRate", from = "] = rate;\n        return lookAtOrders();",
            to = "] += 0; int done = lookAtOrders(); rates[from * MONEYS + to] = rate; return done;")
    static void setRateFromNowOn(Check check) {
        MoneyBooth x = Booths.withOrders(1);
        check.is("setRate(0, 1, 99), for 10 of 10", 0, x.setRate(0, 1, 99));
        check.is("would(0, 1, 100)", 99, x.would(0, 1, 100));
        check.is("setRate(0, 1, 100): the new rate counts", 1, x.setRate(0, 1, 100));
        check.is("would(1, 0, 100) is left", 100, x.would(1, 0, 100));
        x.setRate(0, 1, 0);
        check.is("0 takes it away", 0, x.would(0, 1, 99999));
        check.is("count(4)", 19, x.count(4));
    }

    @Sentence(of = "Promise 2", words = "Returns how many orders are done by that.")
    @Fault(in = "setRate", from = "return lookAtOrders()", to = "return Math.min(lookAtOrders(), 1)")
    @Fault(in = "setRate", from = "return lookAtOrders()", to = "return Math.min(lookAtOrders(), 9)")
    @Fault(in = "setRate", from = "return lookAtOrders()", to = "lookAtOrders(); return ordersDone")
    @Fault(in = "setRate", from = "return lookAtOrders()", to = "lookAtOrders(); return waiting")
    static void setRateReturns(Check check) {
        check.is("without orders", 0, Booths.withOrders(0).setRate(0, 1, 100));
        check.is("one of one", 1, Booths.withOrders(1).setRate(0, 1, 100));
        check.is("ten of ten", 10, Booths.withOrders(10).setRate(0, 1, 100));
        MoneyBooth x = Booths.withOrders(4);
        check.is("none of four", 0, x.setRate(0, 1, 99));
        x.order(0, 2, 3, 1, 1);
        check.is("one of five", 1, x.setRate(2, 3, 100));
        check.is("four of four", 4, x.setRate(0, 1, 101));
        check.is("all were done already", 0, x.setRate(0, 1, 101));
    }

    @Sentence(of = "Promise 2", words = "Throws `IndexOutOfBoundsException` if from or to is not 0 to 4")
    @Fault(in = "setRate", from = "!isMoney(from) ||", to = "")
    @Fault(in = "setRate", from = "!isMoney(from) ||", to = "from < 0 ||")
    @Fault(in = "setRate", from = "|| !isMoney(to)", to = "")
    @Fault(in = "setRate", from = "|| !isMoney(to)", to = "|| to < 0")
    @Fault(in = "setRate", from = "|| !isMoney(to)", to = "|| to > 4")
    @Fault(in = "setRate", from = "!isMoney(from)", to = "from == 4")
    @Fault(in = "setRate", from = "!isMoney(to)", to = "!isMoney(to) || to == 0")
    static void setRateOfNoMoney(Check check) {
        MoneyBooth x = Booths.evenBooth();
        for (int out : Booths.OUTSIDE) {
            check.refused(x, "setRate(" + out + ", 2, 1)", Booths.NO_SUCH, () -> x.setRate(out, 2, 1));
            check.refused(x, "setRate(2, " + out + ", 1)", Booths.NO_SUCH, () -> x.setRate(2, out, 1));
        }
        check.is("setRate(0, 4, 1)", 0, x.setRate(0, 4, 1));
        check.is("setRate(4, 0, 1)", 0, x.setRate(4, 0, 1));
    }

    @Sentence(of = "Promise 2", words = "Throws `IllegalArgumentException` if both are the same, or rate is not 0 to "
            + "9999")
    @Fault(in = "setRate", from = "from == to ||", to = "")
    @Fault(in = "setRate", from = "rate < 0 ||", to = "")
    @Fault(in = "setRate", from = "|| rate > MOST_RATE", to = "")
    @Fault(in = "setRate", from = "rate < 0", to = "rate < -1")
    @Fault(in = "setRate", from = "rate < 0", to = "rate < 1")
    @Fault(in = "setRate", from = "rate > MOST_RATE", to = "rate > MOST_RATE + 1")
    @Fault(in = "setRate", from = "rate > MOST_RATE", to = "rate >= MOST_RATE")
    static void setRateOfBadRate(Check check) {
        MoneyBooth x = Booths.evenBooth();
        for (int money = 0; money < 5; money++) {
            int same = money;
            check.refused(x, "setRate of the same", Booths.BAD, () -> x.setRate(same, same, 100));
        }
        for (int rate : new int[] {-1, 10000, Integer.MIN_VALUE, Integer.MAX_VALUE}) {
            check.refused(x, "setRate(0, 1, " + rate + ")", Booths.BAD, () -> x.setRate(0, 1, rate));
        }
        check.is("setRate(0, 1, 0)", 0, x.setRate(0, 1, 0));
        check.is("setRate(0, 1, 9999)", 0, x.setRate(0, 1, 9999));
    }

    // ---- setSpread

    @Sentence(of = "Promise 3", words = "the spread from now on")
    @Fault(in = "setSpread", from = "this.spread = spread;\n        return lookAtOrders();",
            to = "int done = lookAtOrders(); this.spread = spread; return done;")
    @Fault(in = "setSpread", from = "this.spread = spread", to = "this.spread = Math.max(this.spread, spread)")
    static void setSpreadFromNowOn(Check check) {
        MoneyBooth x = Booths.withOrders(1);
        check.is("setSpread(1), for 10 of 10", 0, x.setSpread(1));
        check.is("count(1)", 1, x.count(1));
        check.is("would(3, 4, 100)", 99, x.would(3, 4, 100));
        check.is("setSpread(0): the new spread counts", 1, x.setSpread(0));
        check.is("count(1)", 0, x.count(1));
    }

    @Sentence(of = "Promise 3", words = "Returns how many orders are done by that.")
    @Fault(in = "setSpread", from = "return lookAtOrders()", to = "return Math.min(lookAtOrders(), 1)")
    @Fault(in = "setSpread", from = "return lookAtOrders()", to = "return Math.min(lookAtOrders(), 9)")
    @Fault(in = "setSpread", from = "return lookAtOrders()", to = "lookAtOrders(); return ordersDone")
    @Fault(in = "setSpread", from = "return lookAtOrders()", to = "lookAtOrders(); return 0")
    static void setSpreadReturns(Check check) {
        check.is("without orders", 0, Booths.withOrders(0).setSpread(0));
        check.is("one of one", 1, Booths.withOrders(1).setSpread(0));
        MoneyBooth x = Booths.withOrders(10);
        check.is("none of ten", 0, x.setSpread(10));
        check.is("ten of ten", 10, x.setSpread(0));
        check.is("all were done already", 0, x.setSpread(0));
        x.order(0, 1, 2, 100, 98);
        x.order(0, 1, 2, 100, 97);
        check.is("one of two", 1, x.setSpread(3));
    }

    @Sentence(of = "Promise 3", words = "Throws `IllegalArgumentException` if spread is not 0 to 50")
    @Fault(in = "setSpread", from = "spread < 0 ||", to = "")
    @Fault(in = "setSpread", from = "|| spread > MOST_SPREAD", to = "")
    @Fault(in = "setSpread", from = "spread < 0", to = "spread <= 0")
    @Fault(in = "setSpread", from = "spread > MOST_SPREAD", to = "spread >= MOST_SPREAD")
    @Fault(in = "setSpread", from = "spread > MOST_SPREAD", to = "spread > MOST_SPREAD + 1")
    static void setSpreadOfBadSpread(Check check) {
        MoneyBooth x = Booths.withOrders(2);
        for (int spread : new int[] {-1, 51, Integer.MIN_VALUE, Integer.MAX_VALUE}) {
            check.refused(x, "setSpread(" + spread + ")", Booths.BAD, () -> x.setSpread(spread));
        }
        check.is("setSpread(50)", 0, x.setSpread(50));
        check.is("setSpread(0)", 2, x.setSpread(0));
    }

    // ---- setLimit

    @Sentence(of = "Promise 4", words = "its limit from now on")
    @Fault(in = "setLimit", from = "limits[money] = most", to = "limits[money] = Math.max(limits[money], most)")
    @Fault(in = "setLimit", from = "limits[money] = most;", to = "limits[money] = most; givenToday[money] = 0;")
    static void setLimitFromNowOn(Check check) {
        MoneyBooth x = Booths.evenBooth();
        x.change(0, 0, 1, 10);
        x.setLimit(1, 10);
        check.refused(x, "10 were given in this day", Booths.NOT_NOW, () -> x.change(0, 0, 1, 1));
        x.setLimit(1, 11);
        check.is("one more", 1, x.change(0, 0, 1, 1));
        check.is("told(1, 2)", 11, x.told(1, 2));
        check.is("told(2, 2)", 9999, x.told(2, 2));
        x.next();
        check.is("on the next day, too", 11, x.told(1, 2));
    }

    @Sentence(of = "Promise 4", words = "Returns the limit before.")
    @Fault(in = "setLimit", from = "return before", to = "return limits[money]")
    @Fault(in = "setLimit", from = "return before", to = "return FIRST_LIMIT")
    static void setLimitReturns(Check check) {
        MoneyBooth x = new MoneyBooth();
        check.is("setLimit(3, 0)", 9999, x.setLimit(3, 0));
        check.is("setLimit(3, 99999)", 0, x.setLimit(3, 99999));
        check.is("setLimit(3, 5)", 99999, x.setLimit(3, 5));
        check.is("setLimit(3, 5)", 5, x.setLimit(3, 5));
        check.is("setLimit(2, 5)", 9999, x.setLimit(2, 5));
    }

    @Sentence(of = "Promise 4", words = "Throws `IndexOutOfBoundsException` if money is not 0 to 4")
    @Fault(in = "setLimit", from = "!isMoney(money)", to = "money < 0")
    @Fault(in = "setLimit", from = "!isMoney(money)", to = "money > 4")
    @Fault(in = "setLimit", from = "!isMoney(money)", to = "!isMoney(money) || money == 0")
    @Fault(in = "setLimit", from = "!isMoney(money)", to = "!isMoney(money) || money == 4")
    static void setLimitOfNoMoney(Check check) {
        MoneyBooth x = Booths.evenBooth();
        for (int out : Booths.OUTSIDE) {
            check.refused(x, "setLimit(" + out + ", 1)", Booths.NO_SUCH, () -> x.setLimit(out, 1));
        }
        check.is("setLimit(0, 1)", 9999, x.setLimit(0, 1));
        check.is("setLimit(4, 1)", 9999, x.setLimit(4, 1));
    }

    @Sentence(of = "Promise 4", words = "Throws `IllegalArgumentException` if most is not 0 to 99999")
    @Fault(in = "setLimit", from = "most < 0 ||", to = "")
    @Fault(in = "setLimit", from = "|| most > MOST_NAMED", to = "")
    @Fault(in = "setLimit", from = "most < 0", to = "most < 1")
    @Fault(in = "setLimit", from = "most > MOST_NAMED", to = "most >= MOST_NAMED")
    @Fault(in = "setLimit", from = "most > MOST_NAMED", to = "most > MOST_NAMED + 1")
    static void setLimitOfBadLimit(Check check) {
        MoneyBooth x = Booths.evenBooth();
        for (int most : Booths.NOT_EVEN_NONE) {
            check.refused(x, "setLimit(1, " + most + ")", Booths.BAD, () -> x.setLimit(1, most));
        }
        check.is("setLimit(1, 0)", 9999, x.setLimit(1, 0));
        check.is("setLimit(1, 99999)", 0, x.setLimit(1, 99999));
    }

    // ---- stock

    @Sentence(of = "Promise 5", words = "Returns its stock then, at most 999999.")
    @Fault(in = "stock", from = "heldAtMost(stocks[money] + more)", to = "stocks[money] + more")
    @Fault(in = "stock", from = "heldAtMost(stocks[money] + more)", to = "Math.min(stocks[money] + more, 999998)")
    @Fault(in = "stock", from = "stocks[money] = heldAtMost(stocks[money] + more);",
            to = "if (stocks[money] + more <= MOST_HELD) { stocks[money] += more; }")
    @Fault(in = "stock", from = "return stocks[money]", to = "return stocks[money] - more")
    static void stockReturns(Check check) {
        MoneyBooth x = Booths.evenBooth();
        check.is("stock(2, 1)", 1001, x.stock(2, 1));
        for (int times = 1; times <= 9; times++) {
            check.is("stock(2, 99999)", 1001 + 99999 * times, x.stock(2, 99999));
        }
        check.is("just full", 999999, x.stock(2, 99007));
        check.is("stock(2, 1)", 999999, x.stock(2, 1));
        x.change(0, 0, 2, 2);
        check.is("three for two", 999999, x.stock(2, 3));
        check.is("told(2, 0)", 999999, x.told(2, 0));
        check.is("told(3, 0)", 1000, x.told(3, 0));
    }

    @Sentence(of = "Promise 5", words = "Throws `IndexOutOfBoundsException` if money is not 0 to 4")
    @Fault(in = "stock", from = "!isMoney(money)", to = "money < 0")
    @Fault(in = "stock", from = "!isMoney(money)", to = "money > 4")
    @Fault(in = "stock", from = "!isMoney(money)", to = "!isMoney(money) || money == 0")
    @Fault(in = "stock", from = "!isMoney(money)", to = "!isMoney(money) || money == 4")
    static void stockOfNoMoney(Check check) {
        MoneyBooth x = Booths.evenBooth();
        for (int out : Booths.OUTSIDE) {
            check.refused(x, "stock(" + out + ", 1)", Booths.NO_SUCH, () -> x.stock(out, 1));
        }
        check.is("stock(0, 1)", 1001, x.stock(0, 1));
        check.is("stock(4, 1)", 1001, x.stock(4, 1));
    }

    @Sentence(of = "Promise 5", words = "Throws `IllegalArgumentException` if more is not 1 to 99999")
    @Fault(in = "stock", from = "!isNamedAmount(more)", to = "more < 1")
    @Fault(in = "stock", from = "!isNamedAmount(more)", to = "more > 99999")
    @Fault(in = "stock", from = "!isNamedAmount(more)", to = "!isAmountOrNone(more)")
    @Fault(in = "stock", from = "!isNamedAmount(more)", to = "more < 1 || more > 100000")
    @Fault(in = "stock", from = "!isNamedAmount(more)", to = "more < 1 || more > 99998")
    @Fault(in = "stock", from = "!isNamedAmount(more)", to = "more < 2 || more > 99999")
    static void stockOfBadAmount(Check check) {
        MoneyBooth x = Booths.evenBooth();
        for (int more : Booths.NO_AMOUNT) {
            check.refused(x, "stock(1, " + more + ")", Booths.BAD, () -> x.stock(1, more));
        }
        check.is("stock(1, 1)", 1001, x.stock(1, 1));
        check.is("stock(1, 99999)", 101000, x.stock(1, 99999));
    }

    // ---- next

    @Sentence(of = "Promise 6", words = "The next day begins: nothing has been given in it.")
    @Fault(in = "next", from = "int money = 0", to = "int money = 1")
    @Fault(in = "next", from = "money < MONEYS", to = "money < MONEYS - 1")
    @Fault(in = "next", from = "day++", to = "day = 1")
    @Fault(in = "next", from = "givenToday[money] = 0;", to = "givenToday[money] = 0; limits[money] = FIRST_LIMIT;")
    static void nothingIsGivenInANewDay(Check check) {
        MoneyBooth x = Booths.evenBooth();
        for (int money = 0; money < 5; money++) {
            x.setLimit(money, 10);
            x.change(0, (money + 1) % 5, money, 10);
            check.is("told(" + money + ", 3)", 10, x.told(money, 3));
        }
        x.next();
        for (int money = 0; money < 5; money++) {
            check.is("told(" + money + ", 3) on the next day", 0, x.told(money, 3));
            check.is("the limit stays", 10, x.told(money, 2));
            check.is("as much again", 10, x.change(0, (money + 1) % 5, money, 10));
        }
        x.next();
        check.is("count(0)", 2, x.count(0));
    }

    @Sentence(of = "Promise 6", words = "Returns how many orders are done by that.")
    @Fault(in = "next", from = "return lookAtOrders()", to = "return Math.min(lookAtOrders(), 9)")
    @Fault(in = "next", from = "return lookAtOrders()", to = "lookAtOrders(); return ordersDone")
    @Fault(in = "next", from = "return lookAtOrders()", to = "lookAtOrders(); return waiting")
    @Fault(in = "next", from = "day++;", to = "day++; int early = lookAtOrders();")
    static void nextReturns(Check check) {
        check.is("without orders", 0, Booths.withOrders(0).next());
        check.is("one of one", 1, Booths.withOrders(1).next());
        check.is("ten of ten", 10, Booths.withOrders(10).next());
        MoneyBooth x = Booths.withOrders(10);
        x.setLimit(1, 30);
        x.change(0, 2, 1, 25);
        check.is("three of ten: all of the limit is there again", 3, x.next());
        check.is("three of seven", 3, x.next());
        check.is("three of four", 3, x.next());
        check.is("one of one", 1, x.next());
        check.is("none is left", 0, x.next());
    }
}
