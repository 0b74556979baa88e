/** A test for each sentence ahead of and behind the promises that names a boundary case. */
public final class TermsTest {
    public static void main(String[] args) {
        Sentences.play(TermsTest.class);
    }

    // ---- what it is, and what is not promised

    @Sentence(of = "What it is", words = "An exchange booth of five moneys.")
    @Fault(from = "MONEYS = 5;", to = "MONEYS = 4;")
    @Fault(from = "MONEYS = 5;", to = "MONEYS = 6;")
    static void fiveMoneys(Check check) {
        MoneyBooth x = new MoneyBooth();
        for (int money = 0; money < 5; money++) {
            check.is("told(" + money + ", 0)", 1000, x.told(money, 0));
        }
        check.refused(x, "told(5, 0)", Booths.NO_SUCH, () -> x.told(5, 0));
    }

    @Sentence(of = "What it is", words = "An object is used for at most 512 calls after it has been made")
    @Fault(in = "changeIfPossible", from = "changesMade++", to = "changesMade = Math.min(changesMade + 1, 507)")
    @Fault(in = "next", from = "day++", to = "day = Math.min(day + 1, 510)")
    static void fiveHundredTwelveCalls(Check check) {
        MoneyBooth x = Booths.withCustomers(1);
        x.earn(0, 0, 1000);
        x.setRate(0, 1, 100);
        for (int call = 4; call <= 511; call++) {
            x.change(0, 0, 1, 1);
        }
        check.is("count(5), the 512th call", 508, x.count(5));
        MoneyBooth y = new MoneyBooth();
        for (int call = 1; call <= 511; call++) {
            y.next();
        }
        check.is("count(0), the 512th call", 511, y.count(0));
    }

    @Sentence(of = "Not promised", words = "nothing about an object after its 512th call")
    @Fault(in = "cancel", from = "waiting--", to = "waiting -= day >= 500 ? 0 : 1")
    static void theLastCallIsPromised(Check check) {
        MoneyBooth x = Booths.withCustomers(1);
        for (int call = 2; call <= 509; call++) {
            x.next();
        }
        x.order(0, 0, 1, 1, 1);
        check.is("cancel(0), the 511th call", 0, x.cancel(0));
        check.is("count(3), the 512th call", 0, x.count(3));
    }

    // ---- moneys

    @Sentence(of = "Terms", words = "All numbers are whole, and / is cut towards 0.")
    @Fault(in = "wholeOnes", from = "tenthousandths / DUST", to = "(tenthousandths + DUST_OF_ONE / 2) / DUST")
    @Fault(in = "wholeOnes", from = "tenthousandths / DUST", to = "(tenthousandths + DUST_OF_ONE - 1) / DUST")
    static void cutTowardsZero(Check check) {
        MoneyBooth x = Booths.evenBooth();
        x.setRate(0, 1, 99);
        check.is("0.99", 0, x.would(0, 1, 1));
        check.is("1.98", 1, x.would(0, 1, 2));
        check.is("99 whole ones", 99, x.would(0, 1, 100));
        check.is("99.99", 99, x.change(0, 0, 1, 101));
        x.setRate(0, 1, 1);
        check.is("0.01 is 0", 0, x.would(0, 1, 1));
    }

    @Sentence(of = "Terms", words = "There are 5, 0 to 4.")
    @Fault(in = "isMoney", from = "money >= 0", to = "money > 0")
    @Fault(in = "isMoney", from = "money >= 0", to = "money >= -1")
    @Fault(in = "isMoney", from = "money < MONEYS", to = "money < MONEYS - 1")
    @Fault(in = "isMoney", from = "money < MONEYS", to = "money <= MONEYS")
    static void moneysFromNoneToFour(Check check) {
        MoneyBooth x = Booths.withCustomers(1);
        for (int money : new int[] {0, 4}) {
            check.is("setLimit(" + money + ", 7)", 9999, x.setLimit(money, 7));
            check.is("stock(" + money + ", 7)", 1007, x.stock(money, 7));
            check.is("earn(0, " + money + ", 7)", 7, x.earn(0, money, 7));
            check.is("setRate to and fro", 0, x.setRate(money, 4 - money, 100));
        }
        check.is("change(0, 0, 4, 7)", 7, x.change(0, 0, 4, 7));
        check.is("change(0, 4, 0, 7)", 7, x.change(0, 4, 0, 7));
        for (int out : new int[] {-1, 5}) {
            check.refused(x, "told(" + out + ", 0)", Booths.NO_SUCH, () -> x.told(out, 0));
            check.refused(x, "stock(" + out + ", 1)", Booths.NO_SUCH, () -> x.stock(out, 1));
            check.refused(x, "would(0, " + out + ", 1)", Booths.NO_SUCH, () -> x.would(0, out, 1));
        }
    }

    @Sentence(of = "Terms", words = "For each two different ones there is a rate from the one to the other one, 0 "
            + "(at first: they are not changed) to 9999")
    @Fault(in = "MoneyBooth", from = "limits[money] =", to = "rates[(money * 6 + 1) % 25] = 100; limits[money] =")
    @Fault(in = "setRate", from = "rates[from * MONEYS + to] = rate", to = "rates[to * MONEYS + from] = rate")
    @Fault(in = "setRate", from = "rates[from * MONEYS + to] = rate;",
            to = "rates[from * MONEYS + to] = rate; rates[to * MONEYS + from] = rate;")
    @Fault(in = "rateOf", from = "? rates[", to = "? rates[from > to ? to * MONEYS + from : ")
    @Fault(from = "MOST_RATE = 9999;", to = "MOST_RATE = 9998;")
    @Fault(from = "MOST_RATE = 9999;", to = "MOST_RATE = 10000;")
    @Fault(in = "setRate", from = "rate < 0", to = "rate < 1")
    static void aRateForEachTwo(Check check) {
        MoneyBooth x = Booths.withCustomers(1);
        for (int pair = 0; pair < 25; pair++) {
            int from = pair / 5;
            int to = pair % 5;
            x.earn(0, from, 1000);
            if (from != to) {
                check.refused(x, "not changed at first", Booths.NOT_NOW, () -> x.change(0, from, to, 1000));
                check.is("no rate at first", 0, x.would(from, to, 99999));
                check.refused(x, "above 9999", Booths.BAD, () -> x.setRate(from, to, 10000));
                check.refused(x, "below 0", Booths.BAD, () -> x.setRate(from, to, -1));
            }
        }
        for (int pair = 1; pair < 25; pair++) {
            if (pair % 6 != 0) {
                x.setRate(pair / 5, pair % 5, pair);
            }
        }
        for (int pair = 1; pair < 25; pair++) {
            if (pair % 6 != 0) {
                check.is("each has its own", pair, x.would(pair / 5, pair % 5, 100));
            }
        }
        x.setRate(3, 1, 9999);
        check.is("9999", 9999, x.would(3, 1, 100));
        x.setRate(3, 1, 0);
        check.is("0 again", 0, x.would(3, 1, 100));
    }

    @Sentence(of = "Terms", words = "so many of the other one for 100 of the one.")
    @Fault(from = "DUST_OF_ONE = 10000;", to = "DUST_OF_ONE = 9999;")
    @Fault(from = "DUST_OF_ONE = 10000;", to = "DUST_OF_ONE = 10001;")
    static void rateForAHundred(Check check) {
        MoneyBooth x = new MoneyBooth();
        for (int rate : new int[] {1, 2, 100, 250, 9998, 9999}) {
            x.setRate(2, 3, rate);
            check.is("would(2, 3, 100) at " + rate, rate, x.would(2, 3, 100));
        }
        x.setRate(2, 3, 1);
        check.is("would(2, 3, 99) at 1", 0, x.would(2, 3, 99));
        check.is("the other way round", 0, x.would(3, 2, 100));
    }

    // ---- the booth

    @Sentence(of = "Terms", words = "It has a spread, 0 (at first) to 50")
    @Fault(from = "private int spread;", to = "private int spread = 1;")
    @Fault(from = "MOST_SPREAD = 50;", to = "MOST_SPREAD = 49;")
    @Fault(from = "MOST_SPREAD = 50;", to = "MOST_SPREAD = 51;")
    @Fault(in = "setSpread", from = "spread < 0", to = "spread < 1")
    @Fault(in = "setSpread", from = "spread < 0", to = "spread < -1")
    static void spreadFromNoneToFifty(Check check) {
        MoneyBooth x = new MoneyBooth();
        x.setRate(0, 1, 100);
        check.is("count(1) at first", 0, x.count(1));
        check.is("nothing is kept at first", 100, x.would(0, 1, 100));
        for (int spread = 50; spread >= 0; spread--) {
            x.setSpread(spread);
            check.is("count(1)", spread, x.count(1));
            check.is("would(0, 1, 100)", 100 - spread, x.would(0, 1, 100));
        }
        check.refused(x, "setSpread(51)", Booths.BAD, () -> x.setSpread(51));
        check.refused(x, "setSpread(-1)", Booths.BAD, () -> x.setSpread(-1));
    }

    @Sentence(of = "Terms", words = "a stock of each money, 0 to 999999 (1000, at first)")
    @Fault(from = "FIRST_STOCK = 1000;", to = "FIRST_STOCK = 999;")
    @Fault(from = "FIRST_STOCK = 1000;", to = "FIRST_STOCK = 1001;")
    @Fault(from = "MOST_HELD = 999999;", to = "MOST_HELD = 999998;")
    @Fault(from = "MOST_HELD = 999999;", to = "MOST_HELD = 1000000;")
    @Fault(in = "isAllowed", from = "given <= stocks[to]", to = "given < stocks[to]")
    static void stockFromNoneToFull(Check check) {
        MoneyBooth x = Booths.evenBooth();
        for (int money = 0; money < 5; money++) {
            check.is("told(" + money + ", 0) at first", 1000, x.told(money, 0));
        }
        check.is("all of it", 1000, x.change(0, 0, 1, 1000));
        check.is("nothing is left", 0, x.told(1, 0));
        Booths.fillStock(x, 1);
        check.is("ten times 99999", 999990, x.told(1, 0));
        check.is("stock(1, 9)", 999999, x.stock(1, 9));
        check.is("stock(1, 1)", 999999, x.stock(1, 1));
        check.is("told(1, 0)", 999999, x.told(1, 0));
    }

    @Sentence(of = "Terms", words = "dust of each money, 0 (at first) to 9999")
    @Fault(in = "MoneyBooth", from = "limits[money] =", to = "dusts[money] = 1; limits[money] =")
    @Fault(in = "keepDust", from = "dust / DUST_OF_ONE", to = "dust / (DUST_OF_ONE - 1)")
    @Fault(in = "keepDust", from = "dust / DUST_OF_ONE", to = "dust / (DUST_OF_ONE + 1)")
    @Fault(in = "keepDust", from = "dust % DUST_OF_ONE", to = "dust % (DUST_OF_ONE - 1)")
    @Fault(in = "keepDust", from = "dust % DUST_OF_ONE", to = "dust % (DUST_OF_ONE + 1)")
    static void dustFromNoneToOneLessThanFull(Check check) {
        MoneyBooth x = Booths.evenBooth();
        for (int money = 0; money < 5; money++) {
            check.is("told(" + money + ", 1) at first", 0, x.told(money, 1));
        }
        x.setSpread(1);
        x.setRate(0, 1, 273);
        check.is("37 * 273 * 99 is 999999", 99, x.change(0, 0, 1, 37));
        check.is("9999 stay dust", 9999, x.told(1, 1));
        check.is("and are none in stock", 901, x.told(1, 0));
        x.setRate(0, 1, 521);
        check.is("19 * 521 * 99 is 980001", 98, x.change(0, 0, 1, 19));
        check.is("10000 are none", 0, x.told(1, 1));
        check.is("and one in stock", 804, x.told(1, 0));
    }

    @Sentence(of = "Terms", words = "and a limit for each money, 0 to 99999 (9999, at first): no more of it is given "
            + "in a day.")
    @Fault(from = "FIRST_LIMIT = 9999;", to = "FIRST_LIMIT = 9998;")
    @Fault(from = "FIRST_LIMIT = 9999;", to = "FIRST_LIMIT = 10000;")
    @Fault(in = "setLimit", from = "most < 0", to = "most < 1")
    @Fault(in = "setLimit", from = "most > MOST_NAMED", to = "most >= MOST_NAMED")
    @Fault(in = "setLimit", from = "most > MOST_NAMED", to = "most > MOST_NAMED + 1")
    @Fault(in = "isAllowed", from = "given <= limits[to]", to = "given < limits[to]")
    @Fault(in = "isAllowed", from = "givenToday[to] + given", to = "given")
    static void limitFromNoneToMost(Check check) {
        MoneyBooth x = Booths.evenBooth();
        x.stock(1, 99999);
        x.stock(1, 99999);
        x.earn(0, 0, 99999);
        check.refused(x, "10000 at first", Booths.NOT_NOW, () -> x.change(0, 0, 1, 10000));
        check.is("9999 at first", 9999, x.change(0, 0, 1, 9999));
        check.refused(x, "one more", Booths.NOT_NOW, () -> x.change(0, 0, 1, 1));
        check.is("setLimit(1, 99999)", 9999, x.setLimit(1, 99999));
        check.is("next()", 0, x.next());
        check.is("99999 in a day", 99999, x.change(0, 0, 1, 99999));
        check.refused(x, "one more", Booths.NOT_NOW, () -> x.change(0, 0, 1, 1));
        check.refused(x, "a limit of 100000", Booths.BAD, () -> x.setLimit(1, 100000));
        check.refused(x, "a limit of -1", Booths.BAD, () -> x.setLimit(1, -1));
        check.is("setLimit(1, 0)", 99999, x.setLimit(1, 0));
        check.is("next()", 0, x.next());
        check.refused(x, "nothing in a day", Booths.NOT_NOW, () -> x.change(0, 0, 1, 1));
    }

    @Sentence(of = "Terms", words = "The day is 0, at first.")
    @Fault(from = "private int day;", to = "private int day = 1;")
    static void dayAtFirst(Check check) {
        MoneyBooth x = new MoneyBooth();
        check.is("count(0)", 0, x.count(0));
        x.next();
        check.is("count(0) on the next day", 1, x.count(0));
    }

    // ---- customers

    @Sentence(of = "Terms", words = "There are at most 6, numbered from 0 in the order of their coming")
    @Fault(from = "MOST_CUSTOMERS = 6;", to = "MOST_CUSTOMERS = 5;")
    @Fault(from = "MOST_CUSTOMERS = 6;", to = "MOST_CUSTOMERS = 7;")
    @Fault(in = "come", from = "customers - 1", to = "customers")
    static void sixCustomers(Check check) {
        MoneyBooth x = new MoneyBooth();
        for (int number = 0; number < 6; number++) {
            check.is("come()", number, x.come());
        }
        check.refused(x, "a seventh", Booths.NOT_NOW, () -> x.come());
        check.is("the last one has nothing", 0, x.has(5, 4));
    }

    @Sentence(of = "Terms", words = "each has of each money 0 (at first) to 999999.")
    @Fault(in = "MoneyBooth", from = "limits[money] =", to = "purses[money] = 1; limits[money] =")
    @Fault(in = "earn", from = "heldAtMost(purses[purse] + more)", to = "purses[purse] + more")
    @Fault(in = "earn", from = "heldAtMost(purses[purse] + more)", to = "Math.min(purses[purse] + more, 999998)")
    @Fault(in = "isAllowed", from = "amount <= purse", to = "amount < purse")
    static void pursesFromNoneToFull(Check check) {
        MoneyBooth x = Booths.withCustomers(6);
        for (int purse = 0; purse < 30; purse++) {
            check.is("nothing at first", 0, x.has(purse / 5, purse % 5));
        }
        for (int purse = 0; purse < 30; purse++) {
            Booths.fillPurse(x, purse / 5, purse % 5);
            check.is("a full purse", 999999, x.has(purse / 5, purse % 5));
        }
        MoneyBooth y = Booths.withCustomers(1);
        y.setRate(0, 1, 100);
        y.earn(0, 0, 1);
        y.change(0, 0, 1, 1);
        check.is("nothing again", 0, y.has(0, 0));
    }

    // ---- changes

    @Sentence(of = "Terms", words = "amount * rate * (100 - spread) tenthousandths (in whole, it does not wrap around)")
    @Fault(in = "tenthousandths", from = "amount * rateOf(from, to) * (WHOLE_PERCENT - spread)",
            to = "(int) (amount * rateOf(from, to) * (WHOLE_PERCENT - spread))")
    @Fault(in = "tenthousandths", from = "amount * rateOf(from, to) *",
            to = "(long) (int) (amount * rateOf(from, to)) *")
    @Fault(in = "tenthousandths", from = "(WHOLE_PERCENT - spread)", to = "WHOLE_PERCENT")
    static void amountsDoNotWrapAround(Check check) {
        MoneyBooth x = Booths.withCustomers(1);
        Booths.fillPurse(x, 0, 0);
        x.setRate(0, 1, 9999);
        check.is("would(0, 1, 99999)", 9998900, x.would(0, 1, 99999));
        x.setRate(0, 1, 5000);
        // 8590 * 5000 * 100 is 2^32 and 32704, and 859000 * 5000 is so, too: cut to an int they would pass
        check.refused(x, "429500 to give", Booths.NOT_NOW, () -> x.change(0, 0, 1, 8590));
        check.refused(x, "42950000 to give", Booths.NOT_NOW, () -> x.change(0, 0, 1, 859000));
        x.setRate(0, 1, 100);
        x.setSpread(50);
        check.is("spread 50", 50, x.change(0, 0, 1, 100));
        x.setSpread(49);
        check.is("spread 49", 51, x.change(0, 0, 1, 100));
    }

    @Sentence(of = "Terms", words = "of these the whole ones (/ 10000) are given; the tenthousandths that are left are "
            + "dust of that money.")
    @Fault(in = "changeIfPossible", from = "keepDust(to,", to = "keepDust(from,")
    @Fault(in = "changeIfPossible", from = "worth % DUST_OF_ONE", to = "worth % WHOLE_PERCENT")
    @Fault(in = "changeIfPossible", from = "keepDust(to, (int) (worth % DUST_OF_ONE));", to = "")
    @Fault(in = "wholeOnes", from = "/ DUST_OF_ONE", to = "/ (DUST_OF_ONE + 1)")
    static void wholeOnesAndDust(Check check) {
        MoneyBooth x = Booths.evenBooth();
        check.is("10000", 1, x.change(0, 0, 1, 1));
        check.is("no dust of it", 0, x.told(1, 1));
        x.setRate(0, 1, 199);
        check.is("19900", 1, x.change(0, 0, 1, 1));
        check.is("dust of the other one", 9900, x.told(1, 1));
        check.is("none of the one", 0, x.told(0, 1));
        x.setSpread(1);
        x.setRate(0, 1, 137);
        check.is("73 * 137 * 99 is 990099", 99, x.change(0, 0, 1, 73));
        check.is("99 more of dust", 9999, x.told(1, 1));
    }

    @Sentence(of = "Terms", words = "It can be done, if the rate is not 0")
    @Fault(in = "rateOf", from = "rates[from * MONEYS + to]", to = "Math.max(1, rates[from * MONEYS + to])")
    @Fault(in = "rateOf", from = "rates[from * MONEYS + to]",
            to = "rates[from * MONEYS + to] == 1 ? 0 : rates[from * MONEYS + to]")
    static void onlyAtARate(Check check) {
        MoneyBooth x = Booths.evenBooth();
        x.setRate(0, 1, 0);
        check.refused(x, "at 0", Booths.NOT_NOW, () -> x.change(0, 0, 1, 99999));
        x.setRate(0, 1, 1);
        check.is("at 1", 999, x.change(0, 0, 1, 99999));
    }

    @Sentence(of = "Terms", words = "the amount is 1 or more")
    @Fault(in = "changeIfPossible", from = "long worth", to = "if (amount == 0) { return 1; } long worth")
    @Fault(in = "changeIfPossible", from = "long worth", to = "if (amount == -1) { return 1; } long worth")
    @Fault(in = "changeIfPossible", from = "long worth", to = "if (amount < -1000) { return 1; } long worth")
    @Fault(in = "isAllowed", from = "amount >= 1", to = "amount >= 2")
    static void onlyAnAmountFromOneOn(Check check) {
        MoneyBooth x = Booths.evenBooth();
        for (int amount : new int[] {0, -1, -100, Integer.MIN_VALUE}) {
            check.refused(x, "change(0, 0, 1, " + amount + ")", Booths.NOT_NOW, () -> x.change(0, 0, 1, amount));
        }
        check.is("change(0, 0, 1, 1)", 1, x.change(0, 0, 1, 1));
    }

    @Sentence(of = "Terms", words = "the customer has so much")
    @Fault(in = "isAllowed", from = "amount <= purse", to = "amount < purse")
    @Fault(in = "isAllowed", from = "amount <= purse", to = "amount <= purse + 1")
    @Fault(in = "isAllowed", from = "amount >= 1 && amount <= purse", to = "amount >= 1")
    static void onlyWhatTheCustomerHas(Check check) {
        MoneyBooth x = Booths.withCustomers(2);
        x.setRate(0, 1, 100);
        x.earn(0, 0, 99);
        x.earn(1, 0, 100);
        check.refused(x, "100 of 99", Booths.NOT_NOW, () -> x.change(0, 0, 1, 100));
        check.is("99 of 99", 99, x.change(0, 0, 1, 99));
        check.refused(x, "1 of nothing", Booths.NOT_NOW, () -> x.change(0, 0, 1, 1));
        check.is("another one has so much", 100, x.change(1, 0, 1, 100));
        check.refused(x, "all that can be named", Booths.NOT_NOW, () -> x.change(1, 0, 1, Integer.MAX_VALUE));
    }

    @Sentence(of = "Terms", words = "something is given")
    @Fault(in = "change", from = "given == 0", to = "given < 0")
    @Fault(in = "isAllowed", from = "given >= 1", to = "given >= 2")
    static void onlyIfSomethingIsGiven(Check check) {
        MoneyBooth x = Booths.evenBooth();
        x.setRate(0, 1, 1);
        check.refused(x, "9900 tenthousandths", Booths.NOT_NOW, () -> x.change(0, 0, 1, 99));
        check.is("10000 tenthousandths", 1, x.change(0, 0, 1, 100));
        x.setSpread(1);
        check.refused(x, "9999 tenthousandths", Booths.NOT_NOW, () -> x.change(0, 0, 1, 101));
        check.is("10098 tenthousandths", 1, x.change(0, 0, 1, 102));
    }

    @Sentence(of = "Terms", words = "the booth has so much in stock")
    @Fault(in = "isAllowed", from = "given <= stocks[to]", to = "given < stocks[to]")
    @Fault(in = "isAllowed", from = "given <= stocks[to]", to = "given <= stocks[to] + 1")
    @Fault(in = "isAllowed", from = "given <= stocks[to]", to = "amount <= stocks[to]")
    static void onlyWhatIsInStock(Check check) {
        MoneyBooth x = Booths.evenBooth();
        check.refused(x, "1001 of 1000", Booths.NOT_NOW, () -> x.change(0, 0, 1, 1001));
        check.is("1000 of 1000", 1000, x.change(0, 0, 1, 1000));
        check.refused(x, "1 of nothing", Booths.NOT_NOW, () -> x.change(0, 0, 1, 1));
        x.setRate(0, 2, 50);
        check.is("more is paid than is in stock, but less is given", 1000, x.change(0, 0, 2, 2000));
        x.setRate(0, 3, 200);
        check.refused(x, "less is paid than is in stock, but more is to give", Booths.NOT_NOW,
                () -> x.change(0, 0, 3, 501));
    }

    @Sentence(of = "Terms", words = "no more than the limit is given of it in this day, this change included.")
    @Fault(in = "isAllowed", from = "given <= limits[to]", to = "given < limits[to]")
    @Fault(in = "isAllowed", from = "given <= limits[to]", to = "given <= limits[to] + 1")
    @Fault(in = "isAllowed", from = "givenToday[to] + given <= limits[to]", to = "givenToday[to] < limits[to]")
    @Fault(in = "isAllowed", from = "givenToday[to] + given <= limits[to]", to = "given <= limits[to]")
    @Fault(in = "changeIfPossible", from = "givenToday[to] +=", to = "givenToday[to] =")
    @Fault(in = "doneIfPossible", from = "return given != 0;",
            to = "if (given != 0) { givenToday[orderPart(place, ORDER_TO)] -= given; } return given != 0;")
    static void onlyUpToTheLimit(Check check) {
        MoneyBooth x = Booths.evenBooth();
        x.setLimit(1, 100);
        check.refused(x, "101 at once", Booths.NOT_NOW, () -> x.change(0, 0, 1, 101));
        check.is("60 of 100", 60, x.change(0, 0, 1, 60));
        check.is("of another money", 1000, x.change(0, 0, 2, 1000));
        check.refused(x, "41 of 40", Booths.NOT_NOW, () -> x.change(0, 0, 1, 41));
        check.is("30 of 40", 30, x.change(0, 2, 1, 30));
        x.order(0, 3, 1, 9, 9);
        check.is("9 of 10 by an order", 1, x.setSpread(0));
        check.refused(x, "2 of 1", Booths.NOT_NOW, () -> x.change(0, 0, 1, 2));
        check.is("1 of 1", 1, x.change(0, 0, 1, 1));
        check.refused(x, "1 of nothing", Booths.NOT_NOW, () -> x.change(0, 0, 1, 1));
        x.setLimit(1, 99);
        check.refused(x, "less than was given", Booths.NOT_NOW, () -> x.change(0, 0, 1, 1));
        x.setLimit(1, 101);
        check.is("one more", 1, x.change(0, 0, 1, 1));
    }

    @Sentence(of = "Terms", words = "Then the customer has so much less of the one, and so much more of the other one")
    @Fault(in = "changeIfPossible", from = "purses[paying] -= amount;", to = "purses[paying] -= (int) given;")
    @Fault(in = "changeIfPossible", from = "purses[getting] + given", to = "purses[getting] + amount")
    @Fault(in = "changeIfPossible", from = "purses[getting] + given", to = "given")
    static void theCustomerPaysAndGets(Check check) {
        MoneyBooth x = Booths.withCustomers(2);
        x.setRate(0, 1, 250);
        x.earn(0, 0, 12);
        x.earn(0, 1, 3);
        x.earn(1, 0, 5);
        x.change(0, 0, 1, 11);
        check.is("one is left", 1, x.has(0, 0));
        check.is("27 more", 30, x.has(0, 1));
        x.earn(0, 0, 1);
        x.change(0, 0, 1, 2);
        check.is("nothing is left", 0, x.has(0, 0));
        check.is("5 more", 35, x.has(0, 1));
        check.is("the other customer", 5, x.has(1, 0));
        check.is("the other customer", 0, x.has(1, 1));
    }

    @Sentence(of = "Terms", words = "of purses and stocks what is more than 999999 is lost")
    @Fault(in = "changeIfPossible", from = "heldAtMost(purses[getting] + given)", to = "purses[getting] + (int) given")
    @Fault(in = "changeIfPossible", from = "heldAtMost(purses[getting] + given)",
            to = "(int) Math.min(purses[getting] + given, 999998)")
    @Fault(in = "changeIfPossible", from = "heldAtMost((long) stocks[from] + amount)", to = "stocks[from] + amount")
    @Fault(in = "changeIfPossible", from = "heldAtMost((long) stocks[from] + amount)",
            to = "Math.min(stocks[from] + amount, 999998)")
    @Fault(in = "stock", from = "heldAtMost(stocks[money] + more)", to = "stocks[money] + more")
    @Fault(in = "earn", from = "heldAtMost(purses[purse] + more)", to = "purses[purse] + more")
    static void whatIsTooMuchIsLost(Check check) {
        MoneyBooth x = Booths.evenBooth();
        Booths.fillPurse(x, 0, 1);
        Booths.fillStock(x, 0);
        check.is("a full purse", 999999, x.has(0, 1));
        check.is("stock(0, 99999)", 999999, x.stock(0, 99999));
        x.setRate(1, 2, 100);
        x.change(0, 1, 2, 2);
        x.change(0, 2, 0, 1);
        check.is("a purse with place for 2", 999997, x.has(0, 1));
        check.is("a stock with place for 1", 999998, x.told(0, 0));
        check.is("one of each", 1, x.change(0, 0, 1, 1));
        check.is("the purse is one below", 999998, x.has(0, 1));
        check.is("the stock is just full", 999999, x.told(0, 0));
        check.is("three of each", 3, x.change(0, 0, 1, 3));
        check.is("two are lost", 999999, x.has(0, 1));
        check.is("three are lost", 999999, x.told(0, 0));
        check.is("it was 99999, and 1 more", 99996, x.has(0, 0));
        check.is("one order", 1, x.order(0, 0, 1, 10, 10));
        check.is("an order loses it as well", 1, x.next());
        check.is("the purse stays full", 999999, x.has(0, 1));
        check.is("the stock stays full", 999999, x.told(0, 0));
    }

    @Sentence(of = "Terms", words = "the stock of the one is more by the amount, that of the other one less by what is "
            + "given")
    @Fault(in = "changeIfPossible", from = "stocks[from] + amount", to = "stocks[from] + given")
    @Fault(in = "changeIfPossible", from = "stocks[to] -= (int) given", to = "stocks[to] -= amount")
    @Fault(in = "changeIfPossible", from = "stocks[to] -= (int) given;", to = "")
    static void theStocksTakeAndGive(Check check) {
        MoneyBooth x = Booths.evenBooth();
        x.setRate(3, 4, 250);
        check.is("change(0, 3, 4, 400)", 1000, x.change(0, 3, 4, 400));
        check.is("paid in", 1400, x.told(3, 0));
        check.is("given to the last one", 0, x.told(4, 0));
        check.is("change(0, 0, 3, 1400)", 1400, x.change(0, 0, 3, 1400));
        check.is("what was paid in can be given", 0, x.told(3, 0));
        check.is("another one", 1000, x.told(1, 0));
    }

    @Sentence(of = "Terms", words = "the dust of the other one is more; behind that each full 10000 of dust are 1 more "
            + "in stock, and are dust no more.")
    @Fault(in = "keepDust", from = "dusts[money] + more", to = "more")
    @Fault(in = "keepDust", from = "stocks[money] + dust / DUST_OF_ONE", to = "stocks[money]")
    @Fault(in = "keepDust", from = "dust % DUST_OF_ONE", to = "dust")
    @Fault(in = "keepDust", from = "dust % DUST_OF_ONE", to = "dust / DUST_OF_ONE > 0 ? 0 : dust")
    @Fault(in = "keepDust", from = "dust / DUST_OF_ONE", to = "(dust - 1) / DUST_OF_ONE")
    @Fault(in = "isAllowed", from = "given <= stocks[to]", to = "given <= stocks[to] + (dusts[to] > 0 ? 1 : 0)")
    static void fullDustIsStock(Check check) {
        MoneyBooth x = Booths.evenBooth();
        x.setRate(0, 1, 250);
        x.change(0, 0, 1, 1);
        check.is("5000 of dust", 5000, x.told(1, 1));
        check.is("no more in stock", 998, x.told(1, 0));
        x.change(0, 0, 1, 1);
        check.is("just 10000 of dust", 0, x.told(1, 1));
        check.is("2 less, 1 more", 997, x.told(1, 0));
        x.setRate(0, 1, 299);
        x.change(0, 0, 1, 1);
        check.is("9900 of dust", 9900, x.told(1, 1));
        x.change(0, 0, 1, 1);
        check.is("19800 of dust", 9800, x.told(1, 1));
        check.is("4 less, 1 more", 994, x.told(1, 0));
        x.change(0, 0, 1, 1);
        x.setRate(0, 1, 100);
        x.change(0, 0, 1, 992);
        check.is("1 left of 993", 1, x.told(1, 0));
        x.setRate(0, 1, 299);
        check.refused(x, "what dust will bring is not there yet", Booths.NOT_NOW, () -> x.change(0, 0, 1, 1));
        x.stock(1, 1);
        check.is("all in stock", 2, x.change(0, 0, 1, 1));
        check.is("one out of dust", 1, x.told(1, 0));
        check.is("9700 and 9900", 9600, x.told(1, 1));
    }

    // ---- orders

    @Sentence(of = "Terms", words = "There are at most 10 waiting, in the order of their giving")
    @Fault(from = "MOST_ORDERS = 10;", to = "MOST_ORDERS = 9;")
    @Fault(from = "MOST_ORDERS = 10;", to = "MOST_ORDERS = 11;")
    @Fault(in = "cancel", from = "moveOrder(behind, behind - 1)", to = "moveOrder(waiting - 1, place)")
    @Fault(in = "lookAtOrders", from = "moveOrder(place, kept);", to = "")
    static void tenOrders(Check check) {
        MoneyBooth x = Booths.evenBooth();
        for (int order = 1; order <= 10; order++) {
            check.is("order", order, x.order(0, 0, 1, order, order == 7 ? 7 : 99999));
        }
        check.refused(x, "an eleventh", Booths.NOT_NOW, () -> x.order(0, 0, 1, 11, 11));
        x.cancel(2);
        check.is("one is done", 1, x.next());
        int[] amounts = {1, 2, 4, 5, 6, 8, 9, 10};
        for (int place = 0; place < 8; place++) {
            check.is("about(" + place + ", 3)", amounts[place], x.about(place, 3));
        }
        x.order(0, 0, 1, 77, 99999);
        check.is("a new one is the last", 77, x.about(8, 3));
        check.is("ten again", 10, x.order(0, 0, 1, 78, 99999));
        check.refused(x, "an eleventh again", Booths.NOT_NOW, () -> x.order(0, 0, 1, 11, 11));
    }

    @Sentence(of = "Terms", words = "each is of a customer, changes an amount from one money to another one, and asks "
            + "for at least some of it.")
    @Fault(in = "order", from = "!isNamedAmount(asks)", to = "!isAmountOrNone(asks)")
    @Fault(in = "order", from = "!isNamedAmount(asks)", to = "asks < 2")
    @Fault(in = "order", from = "from == to ||", to = "")
    static void anOrderAsksForSome(Check check) {
        MoneyBooth x = Booths.withCustomers(1);
        check.refused(x, "no customer", Booths.NO_SUCH, () -> x.order(1, 0, 1, 1, 1));
        check.refused(x, "the same money", Booths.BAD, () -> x.order(0, 1, 1, 1, 1));
        check.refused(x, "for nothing of it", Booths.BAD, () -> x.order(0, 0, 1, 1, 0));
        check.is("for one of it", 1, x.order(0, 0, 1, 1, 1));
    }

    @Sentence(of = "Terms", words = "Whenever a rate or the spread was told, and at the beginning of a day, all waiting "
            + "orders are looked at")
    @Fault(in = "setRate", from = "return lookAtOrders()", to = "return rate == 0 ? 0 : lookAtOrders()")
    @Fault(in = "setRate", from = "return lookAtOrders()", to = "return from == 4 ? 0 : lookAtOrders()")
    @Fault(in = "setSpread", from = "this.spread = spread;",
            to = "if (this.spread == spread) { return 0; } this.spread = spread;")
    @Fault(in = "next", from = "return lookAtOrders()", to = "return 0")
    @Fault(in = "lookAtOrders", from = "doneIfPossible(place)", to = "(place < 9 && doneIfPossible(place))")
    @Fault(in = "lookAtOrders", from = "!doneIfPossible(place)",
            to = "kept == place && place < waiting - 1 || !doneIfPossible(place)")
    @Fault(in = "setLimit", from = "return before", to = "lookAtOrders(); return before")
    @Fault(in = "stock", from = "return stocks[money]", to = "lookAtOrders(); return stocks[money]")
    @Fault(in = "come", from = "return customers - 1", to = "lookAtOrders(); return customers - 1")
    @Fault(in = "earn", from = "return purses[purse]", to = "lookAtOrders(); return purses[purse]")
    @Fault(in = "change", from = "return given", to = "lookAtOrders(); return given")
    @Fault(in = "order", from = "return waiting", to = "lookAtOrders(); return waiting")
    @Fault(in = "cancel", from = "return customer", to = "lookAtOrders(); return customer")
    static void whenOrdersAreLookedAt(Check check) {
        check.is("the same rate", 10, Booths.withOrders(10).setRate(0, 1, 100));
        check.is("a rate of other moneys", 10, Booths.withOrders(10).setRate(4, 3, 7));
        check.is("a rate of 0", 10, Booths.withOrders(10).setRate(1, 0, 0));
        check.is("the same spread", 10, Booths.withOrders(10).setSpread(0));
        check.is("a new day", 10, Booths.withOrders(10).next());
        MoneyBooth x = Booths.withOrders(9);
        x.setLimit(3, 5);
        x.stock(1, 5);
        x.come();
        x.earn(0, 0, 5);
        x.change(0, 0, 1, 5);
        x.order(0, 0, 1, 10, 10);
        x.cancel(3);
        x.needs(0, 1);
        check.is("looked at by nothing else", 9, x.count(3));
        check.is("count(6)", 0, x.count(6));
    }

    @Sentence(of = "Terms", words = "all waiting orders are looked at, once")
    @Fault(in = "lookAtOrders", from = "return done;", to = "return done > 0 ? done + lookAtOrders() : 0;")
    static void lookedAtOnce(Check check) {
        MoneyBooth x = Booths.evenBooth();
        x.order(0, 1, 0, 1001, 1001);
        x.order(0, 0, 1, 1, 1);
        check.is("the first could be done behind the second", 1, x.next());
        check.is("it waits", 1001, x.about(0, 3));
        check.is("till the next look", 1, x.setSpread(0));
        check.is("count(3)", 0, x.count(3));
    }

    @Sentence(of = "Terms", words = "once, in their order")
    @Fault(in = "lookAtOrders", from = "int kept = 0;",
            to = "int kept = waiting > 1 && doneIfPossible(waiting - 1) ? 0 : 0;")
    static void lookedAtInTheirOrder(Check check) {
        MoneyBooth x = Booths.evenBooth();
        x.setLimit(1, 30);
        x.order(0, 0, 1, 11, 11);
        x.order(0, 0, 1, 12, 12);
        x.order(0, 0, 1, 20, 20);
        x.order(0, 0, 1, 7, 7);
        check.is("11, 12, not 20, and 7", 3, x.next());
        check.is("20 waits", 20, x.about(0, 3));
        check.is("told(1, 3)", 30, x.told(1, 3));
        x.order(0, 0, 1, 30, 30);
        check.is("20 is first", 1, x.next());
        check.is("30 waits", 30, x.about(0, 3));
    }

    @Sentence(of = "Terms", words = "each with all as those ahead of it left it")
    @Fault(in = "changeIfPossible", from = "stocks[to] -= (int) given;", to = "")
    @Fault(in = "changeIfPossible", from = "givenToday[to] += (int) given;", to = "")
    @Fault(in = "changeIfPossible", from = "purses[paying] -= amount;", to = "")
    @Fault(in = "changeIfPossible", from = "purses[getting] = heldAtMost(purses[getting] + given);", to = "")
    @Fault(in = "changeIfPossible", from = "stocks[from] = heldAtMost((long) stocks[from] + amount);", to = "")
    static void asThoseAheadLeftIt(Check check) {
        MoneyBooth stock = Booths.evenBooth();
        stock.order(0, 0, 1, 600, 600);
        stock.order(0, 0, 1, 401, 401);
        stock.order(0, 0, 1, 400, 400);
        check.is("401 of 400 in stock", 2, stock.next());
        check.is("waits", 401, stock.about(0, 3));
        MoneyBooth limit = Booths.evenBooth();
        limit.setLimit(1, 10);
        limit.order(0, 0, 1, 4, 4);
        limit.order(0, 2, 1, 7, 7);
        limit.order(0, 3, 1, 6, 6);
        check.is("7 of 6 that the limit leaves", 2, limit.next());
        check.is("waits", 7, limit.about(0, 3));
        MoneyBooth purse = Booths.withCustomers(1);
        purse.setRate(0, 1, 100);
        purse.setRate(1, 2, 100);
        purse.earn(0, 0, 10);
        purse.order(0, 0, 1, 6, 6);
        purse.order(0, 0, 1, 5, 5);
        purse.order(0, 1, 2, 6, 6);
        check.is("5 of 4 in the purse; the other 6 were just given", 2, purse.next());
        check.is("waits", 5, purse.about(0, 3));
        MoneyBooth paidIn = Booths.evenBooth();
        paidIn.order(0, 0, 1, 500, 500);
        paidIn.order(0, 1, 0, 1500, 1500);
        check.is("what was just paid in", 2, paidIn.next());
    }

    @Sentence(of = "Terms", words = "each that can be done, and gives at least what it asks for, is done, and waits no "
            + "more.")
    @Fault(in = "changeIfPossible", from = "given < asks", to = "given <= asks")
    @Fault(in = "changeIfPossible", from = "given < asks", to = "given < asks - 1")
    @Fault(in = "changeIfPossible", from = "given < asks", to = "amount < asks")
    @Fault(in = "lookAtOrders", from = "waiting = kept;", to = "")
    @Fault(in = "lookAtOrders", from = "ordersDone += done;", to = "ordersDone = done;")
    static void gives(Check check) {
        MoneyBooth x = Booths.evenBooth();
        x.setRate(0, 1, 250);
        x.order(0, 0, 1, 33, 83);
        x.order(0, 0, 1, 33, 82);
        x.order(0, 0, 1, 33, 81);
        check.is("82 are given", 2, x.next());
        check.is("count(3)", 1, x.count(3));
        check.is("83 are asked for", 83, x.about(0, 4));
        check.is("has(0, 0)", 99933, x.has(0, 0));
        check.is("has(0, 1)", 100163, x.has(0, 1));
        check.is("252 is enough", 1, x.setRate(0, 1, 252));
        check.is("count(3)", 0, x.count(3));
        check.is("count(6)", 3, x.count(6));
        x.order(0, 0, 1, 99999, 1);
        check.is("99933 in the purse at first", 0, x.next());
    }

    // ---- exceptions

    @Sentence(of = "Terms", words = "A method that throws an exception changes nothing.")
    @Fault(in = "setRate", from = "throw new Ind", to = "day++; throw new Ind")
    @Fault(in = "setRate", from = "throw new Ill", to = "rates[1] = 5; throw new Ill")
    @Fault(in = "setSpread", from = "throw new", to = "this.spread = 50; throw new")
    @Fault(in = "setLimit", from = "throw new Ind", to = "day++; throw new Ind")
    @Fault(in = "setLimit", from = "throw new Ill", to = "limits[money] = 0; throw new Ill")
    @Fault(in = "stock", from = "throw new Ind", to = "day++; throw new Ind")
    @Fault(in = "stock", from = "throw new Ill", to = "stocks[money]++; throw new Ill")
    @Fault(in = "come", from = "throw new", to = "purses[29] = 0; throw new")
    @Fault(in = "earn", from = "throw new Ind", to = "day++; throw new Ind")
    @Fault(in = "earn", from = "throw new Ill", to = "purses[0]++; throw new Ill")
    @Fault(in = "change", from = "throw new Ind", to = "day++; throw new Ind")
    @Fault(in = "change", from = "throw new IllegalS", to = "changesMade++; throw new IllegalS")
    @Fault(in = "order", from = "throw new Ind", to = "day++; throw new Ind")
    @Fault(in = "order", from = "throw new IllegalA", to = "waiting = 1; throw new IllegalA")
    @Fault(in = "order", from = "throw new IllegalS", to = "orders[0] = 5; throw new IllegalS")
    @Fault(in = "cancel", from = "throw new", to = "waiting = 9; throw new")
    @Fault(in = "has", from = "throw new", to = "day++; throw new")
    @Fault(in = "told", from = "throw new", to = "dusts[0]++; throw new")
    @Fault(in = "about", from = "throw new", to = "day++; throw new")
    @Fault(in = "count", from = "throw new", to = "day++; throw new")
    @Fault(in = "would", from = "throw new Ind", to = "day++; throw new Ind")
    @Fault(in = "would", from = "throw new Ill", to = "day++; throw new Ill")
    @Fault(in = "way", from = "throw new Ind", to = "day++; throw new Ind")
    @Fault(in = "way", from = "throw new Ill", to = "day++; throw new Ill")
    @Fault(in = "ring", from = "throw new Ind", to = "day++; throw new Ind")
    @Fault(in = "ring", from = "throw new Ill", to = "day++; throw new Ill")
    @Fault(in = "needs", from = "throw new Ind", to = "day++; throw new Ind")
    @Fault(in = "needs", from = "throw new Ill", to = "day++; throw new Ill")
    @Fault(in = "mean", from = "throw new", to = "givenToday[4]++; throw new")
    @Fault(in = "changeIfPossible", from = "if (given < asks",
            to = "if (given < 1) { keepDust(to, (int) (worth % DUST_OF_ONE)); } if (given < asks")
    static void aRefusedCallChangesNothing(Check check) {
        MoneyBooth x = fullBooth();
        check.refused(x, "setRate(5, 0, 1)", Booths.NO_SUCH, () -> x.setRate(5, 0, 1));
        check.refused(x, "setRate(0, 1, 10000)", Booths.BAD, () -> x.setRate(0, 1, 10000));
        check.refused(x, "setSpread(51)", Booths.BAD, () -> x.setSpread(51));
        check.refused(x, "setLimit(5, 0)", Booths.NO_SUCH, () -> x.setLimit(5, 0));
        check.refused(x, "setLimit(0, -1)", Booths.BAD, () -> x.setLimit(0, -1));
        check.refused(x, "stock(-1, 1)", Booths.NO_SUCH, () -> x.stock(-1, 1));
        check.refused(x, "stock(1, 0)", Booths.BAD, () -> x.stock(1, 0));
        check.refused(x, "come()", Booths.NOT_NOW, () -> x.come());
        check.refused(x, "earn(6, 0, 1)", Booths.NO_SUCH, () -> x.earn(6, 0, 1));
        check.refused(x, "earn(0, 0, 100000)", Booths.BAD, () -> x.earn(0, 0, 100000));
        check.refused(x, "change(6, 0, 1, 1)", Booths.NO_SUCH, () -> x.change(6, 0, 1, 1));
        check.refused(x, "change(0, 0, 0, 1)", Booths.NOT_NOW, () -> x.change(0, 0, 0, 1));
        check.refused(x, "change(0, 0, 1, 99)", Booths.NOT_NOW, () -> x.change(0, 0, 1, 99));
        check.refused(x, "order(0, 5, 1, 1, 1)", Booths.NO_SUCH, () -> x.order(0, 5, 1, 1, 1));
        check.refused(x, "order(0, 0, 1, 0, 1)", Booths.BAD, () -> x.order(0, 0, 1, 0, 1));
        check.refused(x, "order(0, 0, 1, 1, 1)", Booths.NOT_NOW, () -> x.order(0, 0, 1, 1, 1));
        check.refused(x, "cancel(10)", Booths.NO_SUCH, () -> x.cancel(10));
        looksThatAreRefused(check, x);
        check.is("and it goes on: cancel(9)", 0, x.cancel(9));
    }

    private static void looksThatAreRefused(Check check, MoneyBooth x) {
        check.refused(x, "has(0, 5)", Booths.NO_SUCH, () -> x.has(0, 5));
        check.refused(x, "told(0, 5)", Booths.NO_SUCH, () -> x.told(0, 5));
        check.refused(x, "about(0, 5)", Booths.NO_SUCH, () -> x.about(0, 5));
        check.refused(x, "count(7)", Booths.NO_SUCH, () -> x.count(7));
        check.refused(x, "would(5, 0, 1)", Booths.NO_SUCH, () -> x.would(5, 0, 1));
        check.refused(x, "would(0, 1, -1)", Booths.BAD, () -> x.would(0, 1, -1));
        check.refused(x, "way(5, 0, 1)", Booths.NO_SUCH, () -> x.way(5, 0, 1));
        check.refused(x, "way(0, 0, 1)", Booths.BAD, () -> x.way(0, 0, 1));
        check.refused(x, "ring(5, 1)", Booths.NO_SUCH, () -> x.ring(5, 1));
        check.refused(x, "ring(0, -1)", Booths.BAD, () -> x.ring(0, -1));
        check.refused(x, "needs(5, 0)", Booths.NO_SUCH, () -> x.needs(5, 0));
        check.refused(x, "needs(0, 0)", Booths.BAD, () -> x.needs(0, 0));
        check.refused(x, "mean(5)", Booths.NO_SUCH, () -> (long) x.mean(5));
    }

    /** Six customers, ten orders that wait, and something of everything else. */
    private static MoneyBooth fullBooth() {
        MoneyBooth x = Booths.withOrders(10);
        for (int number = 1; number < 6; number++) {
            x.come();
            x.earn(number, 4, 100 + number);
        }
        x.setLimit(2, 500);
        x.setRate(0, 2, 137);
        x.change(0, 0, 2, 11);
        for (int order = 0; order < 10; order++) {
            x.order(0, 0, 1, 10 + order, 99999);
        }
        x.setRate(0, 1, 1);
        x.change(0, 0, 2, 12);
        return x;
    }

    @Sentence(of = "Terms", words = "If several exceptions apply, the one that is named first is thrown.")
    @Fault(in = "setRate", from = "if (!isMoney",
            to = "if (rate < 0) { throw new IllegalArgumentException(); } if (!isMoney")
    @Fault(in = "setRate", from = "if (!isMoney",
            to = "if (from == to) { throw new IllegalArgumentException(); } if (!isMoney")
    @Fault(in = "setLimit", from = "if (!isMoney",
            to = "if (most < 0) { throw new IllegalArgumentException(); } if (!isMoney")
    @Fault(in = "stock", from = "if (!isMoney",
            to = "if (more < 1) { throw new IllegalArgumentException(); } if (!isMoney")
    @Fault(in = "earn", from = "if (!isCust",
            to = "if (more < 1) { throw new IllegalArgumentException(); } if (!isCust")
    @Fault(in = "change", from = "if (!isCust",
            to = "if (from == to) { throw new IllegalStateException(); } if (!isCust")
    @Fault(in = "change", from = "if (!isCust",
            to = "if (amount < 1) { throw new IllegalStateException(); } if (!isCust")
    @Fault(in = "order", from = "if (!isCust",
            to = "if (amount < 1) { throw new IllegalArgumentException(); } if (!isCust")
    @Fault(in = "order", from = "if (!isCust",
            to = "if (from == to) { throw new IllegalArgumentException(); } if (!isCust")
    @Fault(in = "order", from = "if (!isCust",
            to = "if (waiting > 9) { throw new IllegalStateException(); } if (!isCust")
    @Fault(in = "order", from = "if (from", to = "if (waiting > 9) { throw new IllegalStateException(); } if (from")
    @Fault(in = "would", from = "if (!isMoney",
            to = "if (amount < 0) { throw new IllegalArgumentException(); } if (!isMoney")
    @Fault(in = "way", from = "if (!isMoney",
            to = "if (amount < 0) { throw new IllegalArgumentException(); } if (!isMoney")
    @Fault(in = "way", from = "if (!isMoney",
            to = "if (from == to) { throw new IllegalArgumentException(); } if (!isMoney")
    @Fault(in = "ring", from = "if (!isMoney",
            to = "if (amount < 0) { throw new IllegalArgumentException(); } if (!isMoney")
    @Fault(in = "needs", from = "if (!isMoney",
            to = "if (from == to) { throw new IllegalArgumentException(); } if (!isMoney")
    static void theFirstException(Check check) {
        MoneyBooth x = fullBooth();
        check.refused(x, "setRate(0, 5, -1)", Booths.NO_SUCH, () -> x.setRate(0, 5, -1));
        check.refused(x, "setRate(5, 5, 1)", Booths.NO_SUCH, () -> x.setRate(5, 5, 1));
        check.refused(x, "setLimit(5, -1)", Booths.NO_SUCH, () -> x.setLimit(5, -1));
        check.refused(x, "stock(5, 0)", Booths.NO_SUCH, () -> x.stock(5, 0));
        check.refused(x, "earn(6, 0, 0)", Booths.NO_SUCH, () -> x.earn(6, 0, 0));
        check.refused(x, "earn(0, 5, 0)", Booths.NO_SUCH, () -> x.earn(0, 5, 0));
        check.refused(x, "change(6, 1, 1, 1)", Booths.NO_SUCH, () -> x.change(6, 1, 1, 1));
        check.refused(x, "change(0, 5, 5, 1)", Booths.NO_SUCH, () -> x.change(0, 5, 5, 1));
        check.refused(x, "change(0, 0, 5, 0)", Booths.NO_SUCH, () -> x.change(0, 0, 5, 0));
        check.refused(x, "order(6, 1, 1, 1, 1)", Booths.NO_SUCH, () -> x.order(6, 1, 1, 1, 1));
        check.refused(x, "order(0, 5, 5, 1, 1)", Booths.NO_SUCH, () -> x.order(0, 5, 5, 1, 1));
        check.refused(x, "order(0, 0, 5, 0, 1)", Booths.NO_SUCH, () -> x.order(0, 0, 5, 0, 1));
        check.refused(x, "order(0, 0, 5, 1, 1)", Booths.NO_SUCH, () -> x.order(0, 0, 5, 1, 1));
        check.refused(x, "order(0, 1, 1, 1, 1)", Booths.BAD, () -> x.order(0, 1, 1, 1, 1));
        check.refused(x, "order(0, 0, 1, 1, 0)", Booths.BAD, () -> x.order(0, 0, 1, 1, 0));
        check.refused(x, "would(0, 5, -1)", Booths.NO_SUCH, () -> x.would(0, 5, -1));
        check.refused(x, "way(0, 5, -1)", Booths.NO_SUCH, () -> x.way(0, 5, -1));
        check.refused(x, "way(5, 5, 1)", Booths.NO_SUCH, () -> x.way(5, 5, 1));
        check.refused(x, "ring(5, -1)", Booths.NO_SUCH, () -> x.ring(5, -1));
        check.refused(x, "needs(5, 5)", Booths.NO_SUCH, () -> x.needs(5, 5));
    }
}
