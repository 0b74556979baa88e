/** A test for each sentence of the promises 16 to 21 that names a boundary case: what would be. */
public final class WouldTest {
    public static void main(String[] args) {
        Sentences.play(WouldTest.class);
    }

    /** A booth with these rates: from, to, rate, and so on. */
    private static MoneyBooth atRates(int... rates) {
        MoneyBooth x = new MoneyBooth();
        for (int i = 0; i < rates.length; i += 3) {
            x.setRate(rates[i], rates[i + 1], rates[i + 2]);
        }
        return x;
    }

    /** Gives away all stock of each money, and allows no more of it. */
    private static MoneyBooth emptied(MoneyBooth x) {
        int customer = x.come();
        for (int money = 0; money < 5; money++) {
            x.earn(customer, money, 1000);
        }
        int[] before = new int[25];
        for (int pair = 0; pair < 25; pair++) {
            before[pair] = x.would(pair / 5, pair % 5, 100);
        }
        for (int money = 0; money < 5; money++) {
            x.setRate(money, (money + 1) % 5, 100);
            x.change(customer, money, (money + 1) % 5, x.told((money + 1) % 5, 0));
            x.setRate(money, (money + 1) % 5, before[money * 5 + (money + 1) % 5]);
            x.setLimit((money + 1) % 5, 0);
        }
        return x;
    }

    // ---- would

    @Sentence(of = "Promise 16", words = "Returns how much would be given for it, whatever stocks and limits are")
    @Fault(in = "would", from = "return (int) wholeOnes(tenthousandths(from, to, amount));",
            to = "return (int) Math.min(limits[to], wholeOnes(tenthousandths(from, to, amount)));")
    @Fault(in = "would", from = "return (int) wholeOnes(tenthousandths(from, to, amount));",
            to = "return (int) Math.min(stocks[to], wholeOnes(tenthousandths(from, to, amount)));")
    @Fault(in = "would", from = "return (int) wholeOnes", to = "changesMade++; return (int) wholeOnes")
    static void wouldWhateverThereIs(Check check) {
        MoneyBooth x = atRates(0, 1, 9999, 0, 2, 1, 1, 0, 100);
        check.is("more than stock and limit", 9998900, x.would(0, 1, 99999));
        check.is("would(0, 1, 1)", 99, x.would(0, 1, 1));
        check.is("would(0, 1, 0)", 0, x.would(0, 1, 0));
        check.is("would(0, 2, 99)", 0, x.would(0, 2, 99));
        check.is("would(0, 2, 100)", 1, x.would(0, 2, 100));
        check.is("would(0, 2, 199)", 1, x.would(0, 2, 199));
        check.is("nothing is changed", 0, x.count(5));
        emptied(x);
        check.is("no stock, no limit", 9998900, x.would(0, 1, 99999));
        x.setSpread(50);
        check.is("the spread counts", 4999450, x.would(0, 1, 99999));
        check.is("just none", 0, x.would(0, 2, 199));
        check.is("just one", 1, x.would(0, 2, 200));
    }

    @Sentence(of = "Promise 16", words = "0, if the rate is 0")
    @Fault(in = "rateOf", from = "rates[from * MONEYS + to]", to = "Math.max(1, rates[from * MONEYS + to])")
    @Fault(in = "would", from = "return (int) wholeOnes",
            to = "if (rateOf(from, to) == 0) { return amount; } return (int) wholeOnes")
    @Fault(in = "would", from = "return (int) wholeOnes",
            to = "if (rateOf(from, to) == 0) { return -1; } return (int) wholeOnes")
    static void wouldAtNoRate(Check check) {
        MoneyBooth x = atRates(1, 0, 100);
        check.is("would(0, 1, 99999)", 0, x.would(0, 1, 99999));
        check.is("would(0, 1, 0)", 0, x.would(0, 1, 0));
        x.setRate(1, 0, 0);
        check.is("would(1, 0, 99999)", 0, x.would(1, 0, 99999));
    }

    @Sentence(of = "Promise 16", words = "the amount itself, if both are the same")
    @Fault(in = "would", from = "if (from == to) {", to = "if (from == to && from > 0) {")
    @Fault(in = "would", from = "if (from == to) {", to = "if (from == to && spread == 0) {")
    @Fault(in = "would", from = "return amount", to = "return (int) wholeOnes((long) amount * 100 * (100 - spread))")
    static void wouldOfTheSame(Check check) {
        MoneyBooth x = Booths.evenBooth();
        x.setSpread(50);
        for (int money = 0; money < 5; money++) {
            for (int amount : new int[] {0, 1, 100, 99999}) {
                check.is("would of the same", amount, x.would(money, money, amount));
            }
        }
    }

    @Sentence(of = "Promise 16", words = "Throws `IndexOutOfBoundsException` if from or to is not 0 to 4")
    @Fault(in = "would", from = "!isMoney(from) ||", to = "")
    @Fault(in = "would", from = "|| !isMoney(to)", to = "")
    @Fault(in = "would", from = "if (!isMoney", to = "if (from == to && amount == 1) { return 1; } if (!isMoney")
    @Fault(in = "would", from = "!isMoney(to)", to = "!isMoney(to) || to == 4")
    static void wouldOfNoMoney(Check check) {
        MoneyBooth x = Booths.evenBooth();
        for (int out : Booths.OUTSIDE) {
            check.refused(x, "would(" + out + ", 2, 1)", Booths.NO_SUCH, () -> x.would(out, 2, 1));
            check.refused(x, "would(2, " + out + ", 1)", Booths.NO_SUCH, () -> x.would(2, out, 1));
            check.refused(x, "would(" + out + ", " + out + ", 1)", Booths.NO_SUCH, () -> x.would(out, out, 1));
        }
        check.is("would(0, 4, 1)", 1, x.would(0, 4, 1));
        check.is("would(4, 0, 1)", 1, x.would(4, 0, 1));
    }

    @Sentence(of = "Promise 16", words = "Throws `IllegalArgumentException` if amount is not 0 to 99999")
    @Fault(in = "would", from = "!isAmountOrNone(amount)", to = "amount < 0")
    @Fault(in = "would", from = "!isAmountOrNone(amount)", to = "amount > 99999")
    @Fault(in = "would", from = "!isAmountOrNone(amount)", to = "!isNamedAmount(amount)")
    @Fault(in = "would", from = "!isAmountOrNone(amount)", to = "!isAmountOrNone(amount) && from != to")
    @Fault(in = "isAmountOrNone", from = "amount == 0", to = "amount == 0 || amount == -1")
    @Fault(in = "isNamedAmount", from = "amount <= MOST_NAMED", to = "amount < MOST_NAMED")
    @Fault(in = "isNamedAmount", from = "amount <= MOST_NAMED", to = "amount <= MOST_NAMED + 1")
    static void wouldOfBadAmount(Check check) {
        MoneyBooth x = Booths.evenBooth();
        for (int amount : Booths.NOT_EVEN_NONE) {
            check.refused(x, "would(0, 1, " + amount + ")", Booths.BAD, () -> x.would(0, 1, amount));
            check.refused(x, "would(1, 1, " + amount + ")", Booths.BAD, () -> x.would(1, 1, amount));
        }
        check.is("would(0, 1, 0)", 0, x.would(0, 1, 0));
        check.is("would(0, 1, 99999)", 99999, x.would(0, 1, 99999));
    }

    // ---- way

    @Sentence(of = "Promise 17", words = "by up to 4 changes")
    @Fault(from = "LONGEST_WAY = 4;", to = "LONGEST_WAY = 3;")
    @Fault(from = "LONGEST_WAY = 4;", to = "LONGEST_WAY = 2;")
    @Fault(from = "LONGEST_WAY = 4;", to = "LONGEST_WAY = 1;")
    @Fault(in = "mostAtGoal", from = "changesLeft < 1", to = "changesLeft < 2")
    @Fault(in = "mostAtGoal", from = "int over = 0", to = "int over = 1")
    @Fault(in = "mostAtGoal", from = "over < MONEYS", to = "over < MONEYS - 1")
    @Fault(in = "mostOver", from = "changesLeft - 1", to = "changesLeft - 2")
    @Fault(in = "mostAtGoal", from = "long most = behindOneChange(at, goal, amount);", to = "long most = 0;"
            + " if (changesLeft < 4) { most = behindOneChange(at, goal, amount); }")
    static void wayByUpToFour(Check check) {
        check.is("one change", 150, atRates(3, 1, 150).way(3, 1, 100));
        check.is("two changes", 225, atRates(3, 4, 150, 4, 1, 150).way(3, 1, 100));
        check.is("three changes", 337, atRates(3, 4, 150, 4, 0, 150, 0, 1, 150).way(3, 1, 100));
        MoneyBooth x = atRates(3, 4, 150, 4, 0, 150, 0, 2, 150, 2, 1, 150);
        check.is("four changes", 505, x.way(3, 1, 100));
        x.setRate(3, 1, 505);
        check.is("one brings as much", 505, x.way(3, 1, 100));
        x.setRate(3, 1, 506);
        check.is("one brings more", 506, x.way(3, 1, 100));
        x.setRate(4, 1, 338);
        check.is("two bring more: 150, 507", 507, x.way(3, 1, 100));
        x.setRate(0, 1, 226);
        check.is("three bring more: 150, 225, 508", 508, x.way(3, 1, 100));
        x.setRate(2, 1, 151);
        check.is("four bring more: 337 * 1.51", 508, x.way(3, 1, 100));
        x.setRate(2, 1, 152);
        check.is("four bring more: 337 * 1.52", 512, x.way(3, 1, 100));
    }

    @Sentence(of = "Promise 17", words = "(none at a rate of 0)")
    @Fault(in = "rateOf", from = "rates[from * MONEYS + to]", to = "Math.max(1, rates[from * MONEYS + to])")
    @Fault(in = "behindOneChange", from = "return Math.min(",
            to = "if (rateOf(from, to) == 0) { return amount; } return Math.min(")
    static void wayAtNoRate(Check check) {
        MoneyBooth x = atRates(0, 2, 9999, 3, 1, 9999, 2, 0, 9999, 1, 3, 9999);
        check.is("there is no rate between 2 and 3", 0, x.way(0, 1, 99999));
        x.setRate(2, 3, 1);
        check.is("a rate of 1 is enough: 9998900, 99989", 9997900, x.way(0, 1, 99999));
        x.setRate(2, 3, 0);
        check.is("it is gone", 0, x.way(0, 1, 99999));
        check.is("without rates", 0, new MoneyBooth().way(4, 0, 99999));
    }

    @Sentence(of = "Promise 17", words = "whatever stocks and limits are")
    @Fault(in = "behindOneChange", from = "MOST_BEHIND_A_CHANGE", to = "Math.min(limits[to], MOST_BEHIND_A_CHANGE)")
    @Fault(in = "behindOneChange", from = "MOST_BEHIND_A_CHANGE", to = "Math.min(stocks[to], MOST_BEHIND_A_CHANGE)")
    static void wayWhateverThereIs(Check check) {
        MoneyBooth x = atRates(0, 1, 200, 1, 2, 200, 2, 3, 200, 3, 4, 200);
        check.is("more than stock and limit", 1599984, x.way(0, 4, 99999));
        emptied(x);
        check.is("no stock, no limit", 1599984, x.way(0, 4, 99999));
        check.is("one of them", 2, x.way(0, 1, 1));
    }

    @Sentence(of = "Promise 17", words = "without coming to any money twice")
    @Fault(in = "way", from = "bit(from) | bit(to)", to = "bit(to)")
    @Fault(in = "way", from = "bit(from) | bit(to)", to = "bit(from)")
    @Fault(in = "mostOver", from = "visited | bit(over)", to = "visited")
    @Fault(in = "mostAtGoal", from = "(visited & bit(over)) == 0", to = "over != at")
    static void wayWithoutComingTwice(Check check) {
        MoneyBooth first = atRates(0, 1, 100, 0, 2, 9999, 2, 0, 9999);
        check.is("not to the first one again", 10, first.way(0, 1, 10));
        MoneyBooth last = atRates(0, 1, 100, 1, 2, 9999, 2, 1, 9999);
        check.is("not to the last one twice", 10, last.way(0, 1, 10));
        MoneyBooth between = atRates(0, 2, 100, 2, 3, 9999, 3, 2, 9999, 2, 1, 100);
        check.is("not to one between twice", 10, between.way(0, 1, 10));
    }

    @Sentence(of = "Promise 17", words = "what is more than 2147483647 behind one of them is cut off.")
    @Fault(from = "MOST_BEHIND_A_CHANGE = 2147483647L;", to = "MOST_BEHIND_A_CHANGE = 2147483646L;")
    @Fault(from = "MOST_BEHIND_A_CHANGE = 2147483647L;", to = "MOST_BEHIND_A_CHANGE = 2147483648L;")
    @Fault(in = "behindOneChange", from = "Math.min(wholeOnes(tenthousandths(from, to, amount)), MOST_BEHIND_A_CHANGE)",
            to = "wholeOnes(tenthousandths(from, to, amount))")
    @Fault(in = "way", from = "return (int) mostAtGoal(from, to, amount, bit(from) | bit(to), LONGEST_WAY);",
            to = "return (int) (mostAtGoal(from, to, amount, bit(from) | bit(to), LONGEST_WAY) % MOST_BEHIND_A_CHANGE);")
    @Fault(in = "behindOneChange", from = "Math.min(wholeOnes(tenthousandths(from, to, amount)), MOST_BEHIND_A_CHANGE)",
            to = "(wholeOnes(tenthousandths(from, to, amount)) & MOST_BEHIND_A_CHANGE)")
    static void wayCutsOff(Check check) {
        check.is("99499, 9930000, 989623800, one below the most", 2147483646,
                atRates(0, 1, 9980, 1, 2, 9966, 2, 3, 217).way(0, 3, 99499));
        check.is("96943, 9630317, 958698057, the most", 2147483647,
                atRates(0, 1, 9934, 1, 2, 9955, 2, 3, 224).way(0, 3, 96943));
        MoneyBooth above = atRates(0, 1, 9925, 1, 2, 9937, 2, 3, 219);
        check.is("99426, 9868030, 980586141, one above the most", 2147483647, above.way(0, 3, 99426));
        above.setRate(3, 4, 1);
        check.is("cut off ahead of the next one", 21474836, above.way(0, 4, 99426));
        MoneyBooth high = atRates(0, 1, 9999, 1, 2, 9999, 2, 3, 9999, 3, 4, 9999);
        check.is("not cut off yet", 999790011, high.way(0, 2, 99999));
        check.is("behind three", 2147483647, high.way(0, 3, 99999));
        check.is("behind four", 2147483647, high.way(0, 4, 99999));
        high.setRate(3, 4, 50);
        check.is("behind the third, and halved", 1073741823, high.way(0, 4, 99999));
    }

    @Sentence(of = "Promise 17", words = "Returns how much it brings; 0, if there is no way.")
    @Fault(in = "way", from = "return (int) mostAtGoal(from, to, amount, bit(from) | bit(to), LONGEST_WAY)",
            to = "return (int) Math.max(1, mostAtGoal(from, to, amount, bit(from) | bit(to), LONGEST_WAY))")
    @Fault(in = "mostAtGoal", from = "Math.max(most, ", to = "Math.min(most, ")
    @Fault(in = "mostAtGoal", from = "most = Math.max(most, mostOver(at, over, goal, amount, visited, changesLeft));",
            to = "most = most > 0 ? most : mostOver(at, over, goal, amount, visited, changesLeft);")
    static void wayReturns(Check check) {
        MoneyBooth x = atRates(0, 1, 100, 1, 2, 100, 4, 3, 100);
        check.is("no way from 2 to 0", 0, x.way(2, 0, 99999));
        check.is("no way from 0 to 3", 0, x.way(0, 3, 99999));
        check.is("a way for nothing", 0, x.way(0, 2, 0));
        check.is("a way for 1", 1, x.way(0, 2, 1));
        x.setRate(0, 2, 99);
        check.is("nothing straight on, 1 over another one", 1, x.way(0, 2, 1));
        check.is("way(0, 2, 100)", 100, x.way(0, 2, 100));
        x.setRate(0, 2, 101);
        check.is("1 either way", 1, x.way(0, 2, 1));
        check.is("straight on", 101, x.way(0, 2, 100));
        x.setSpread(50);
        check.is("the spread counts for each change", 50, x.way(0, 2, 100));
        check.is("nothing is left of 1", 0, x.way(0, 2, 1));
    }

    @Sentence(of = "Promise 17", words = "Throws `IndexOutOfBoundsException` if from or to is not 0 to 4")
    @Fault(in = "way", from = "!isMoney(from) ||", to = "")
    @Fault(in = "way", from = "|| !isMoney(to)", to = "")
    @Fault(in = "way", from = "!isMoney(from)", to = "!isMoney(from) || from == 4")
    @Fault(in = "way", from = "!isMoney(to)", to = "!isMoney(to) || to == 4")
    static void wayOfNoMoney(Check check) {
        MoneyBooth x = Booths.evenBooth();
        for (int out : Booths.OUTSIDE) {
            check.refused(x, "way(" + out + ", 2, 1)", Booths.NO_SUCH, () -> x.way(out, 2, 1));
            check.refused(x, "way(2, " + out + ", 1)", Booths.NO_SUCH, () -> x.way(2, out, 1));
        }
        check.is("way(0, 4, 1)", 1, x.way(0, 4, 1));
        check.is("way(4, 0, 1)", 1, x.way(4, 0, 1));
    }

    @Sentence(of = "Promise 17", words = "Throws `IllegalArgumentException` if both are the same, or amount is not 0 to "
            + "99999")
    @Fault(in = "way", from = "from == to ||", to = "")
    @Fault(in = "way", from = "!isAmountOrNone(amount)", to = "amount < 0")
    @Fault(in = "way", from = "!isAmountOrNone(amount)", to = "amount > 99999")
    @Fault(in = "way", from = "!isAmountOrNone(amount)", to = "!isNamedAmount(amount)")
    @Fault(in = "way", from = "!isAmountOrNone(amount)", to = "amount < 0 || amount > 99998")
    static void wayOfBadAmount(Check check) {
        MoneyBooth x = Booths.evenBooth();
        for (int money = 0; money < 5; money++) {
            int same = money;
            check.refused(x, "way to the same", Booths.BAD, () -> x.way(same, same, 1));
        }
        for (int amount : Booths.NOT_EVEN_NONE) {
            check.refused(x, "way(0, 1, " + amount + ")", Booths.BAD, () -> x.way(0, 1, amount));
        }
        check.is("way(0, 1, 0)", 0, x.way(0, 1, 0));
        check.is("way(0, 1, 99999)", 99999, x.way(0, 1, 99999));
    }

    // ---- ring

    @Sentence(of = "Promise 18", words = "one behind the other from a money back to it, 2 to 5")
    @Fault(from = "LONGEST_RING = 5;", to = "LONGEST_RING = 4;")
    @Fault(from = "LONGEST_RING = 5;", to = "LONGEST_RING = 3;")
    @Fault(from = "LONGEST_RING = 5;", to = "LONGEST_RING = 2;")
    @Fault(in = "rateOf", from = "? rates[from", to = "? from == to ? 200 : rates[from")
    @Fault(in = "mostAtGoal", from = "long most = behindOneChange(at, goal, amount);",
            to = "long most = changesLeft == 4 ? 0 : behindOneChange(at, goal, amount);")
    @Fault(in = "mostAtGoal", from = "return most", to = "return Math.max(most, amount)")
    static void ringOfTwoToFive(Check check) {
        check.is("none", 0, new MoneyBooth().ring(3, 100));
        check.is("one change does not lead back", 0, atRates(3, 4, 9999).ring(3, 100));
        check.is("nor do two to others", 0, atRates(3, 4, 9999, 4, 0, 9999).ring(3, 100));
        check.is("two changes: 150, 225", 125, atRates(3, 4, 150, 4, 3, 150).ring(3, 100));
        check.is("three changes: 337", 237, atRates(3, 4, 150, 4, 0, 150, 0, 3, 150).ring(3, 100));
        check.is("four changes: 505", 405, atRates(3, 4, 150, 4, 0, 150, 0, 1, 150, 1, 3, 150).ring(3, 100));
        MoneyBooth x = atRates(3, 4, 150, 4, 0, 150, 0, 1, 150, 1, 2, 150, 2, 3, 150);
        for (int money = 0; money < 5; money++) {
            check.is("five changes: 757", 657, x.ring(money, 100));
        }
        x.setRate(1, 3, 224);
        check.is("five bring most: 757 against 754", 657, x.ring(3, 100));
        x.setRate(1, 3, 226);
        check.is("four bring most: 337 * 2.26 is 761", 661, x.ring(3, 100));
        x.setRate(4, 3, 509);
        check.is("two bring most: 150 * 5.09 is 763", 663, x.ring(3, 100));
    }

    @Sentence(of = "Promise 18", words = "(none at a rate of 0)")
    @Fault(in = "rateOf", from = "rates[from * MONEYS + to]", to = "Math.max(1, rates[from * MONEYS + to])")
    @Fault(in = "behindOneChange", from = "return Math.min(",
            to = "if (rateOf(from, to) == 0) { return amount; } return Math.min(")
    static void ringAtNoRate(Check check) {
        MoneyBooth x = atRates(0, 1, 9999, 2, 0, 9999);
        check.is("there is no rate between 1 and 2", 0, x.ring(0, 100));
        x.setRate(1, 2, 1);
        check.is("a rate of 1 is enough: 9999, 99, 9899", 9799, x.ring(0, 100));
        x.setRate(1, 2, 0);
        check.is("it is gone", 0, x.ring(0, 99999));
    }

    @Sentence(of = "Promise 18", words = "without coming to any other money twice")
    @Fault(in = "mostOver", from = "visited | bit(over)", to = "visited")
    @Fault(in = "mostAtGoal", from = "(visited & bit(over)) == 0", to = "over != at && over != goal")
    static void ringWithoutComingTwice(Check check) {
        MoneyBooth x = atRates(0, 1, 100, 1, 2, 9999, 2, 1, 9999, 1, 0, 110);
        check.is("1 is not come to twice", 10, x.ring(0, 100));
        x.setRate(2, 0, 1);
        check.is("2 is not, either: 100, 9999, 99", 10, x.ring(0, 100));
        x.setRate(2, 0, 2);
        check.is("100, 9999, 199", 99, x.ring(0, 100));
        check.is("from 1 that ring is: 9999, 999800", 999700, x.ring(1, 100));
    }

    @Sentence(of = "Promise 18", words = "whatever stocks and limits are")
    @Fault(in = "behindOneChange", from = "MOST_BEHIND_A_CHANGE", to = "Math.min(limits[to], MOST_BEHIND_A_CHANGE)")
    @Fault(in = "behindOneChange", from = "MOST_BEHIND_A_CHANGE", to = "Math.min(stocks[to], MOST_BEHIND_A_CHANGE)")
    static void ringWhateverThereIs(Check check) {
        MoneyBooth x = atRates(0, 1, 200, 1, 0, 200);
        check.is("more than stock and limit", 299997, x.ring(0, 99999));
        emptied(x);
        check.is("no stock, no limit", 299997, x.ring(0, 99999));
        check.is("one of them", 3, x.ring(0, 1));
    }

    @Sentence(of = "Promise 18", words = "what is more than 2147483647 behind one of them is cut off.")
    @Fault(from = "MOST_BEHIND_A_CHANGE = 2147483647L;", to = "MOST_BEHIND_A_CHANGE = 2147483646L;")
    @Fault(from = "MOST_BEHIND_A_CHANGE = 2147483647L;", to = "MOST_BEHIND_A_CHANGE = 2147483648L;")
    @Fault(in = "behindOneChange", from = "Math.min(wholeOnes(tenthousandths(from, to, amount)), MOST_BEHIND_A_CHANGE)",
            to = "wholeOnes(tenthousandths(from, to, amount))")
    @Fault(in = "ring", from = "(int) (most - amount)", to = "(int) Math.min(most - amount, 2147383647)")
    static void ringCutsOff(Check check) {
        check.is("one below the most", 2147483646 - 99499,
                atRates(0, 1, 9980, 1, 2, 9966, 2, 0, 217).ring(0, 99499));
        check.is("the most", 2147483647 - 96943, atRates(0, 1, 9934, 1, 2, 9955, 2, 0, 224).ring(0, 96943));
        MoneyBooth above = atRates(0, 1, 9925, 1, 2, 9937, 2, 3, 219, 3, 0, 100);
        check.is("one above the most", 2147483647 - 99426, above.ring(0, 99426));
        above.setRate(3, 0, 50);
        check.is("cut off ahead of the last one", 1073741823 - 99426, above.ring(0, 99426));
        MoneyBooth high = atRates(0, 1, 9999, 1, 2, 9999, 2, 3, 9999, 3, 4, 9999, 4, 0, 9999);
        check.is("behind five", 2147483647 - 99999, high.ring(0, 99999));
        check.is("from 100", 2147483647 - 100, high.ring(4, 100));
    }

    @Sentence(of = "Promise 18", words = "Returns how much more than the amount is there at the end at most; 0, if it is "
            + "not more by any ring.")
    @Fault(in = "ring", from = "return most > amount ? (int) (most - amount) : 0", to = "return (int) (most - amount)")
    @Fault(in = "ring", from = "(most - amount)", to = "most")
    @Fault(in = "ring", from = "most > amount", to = "most > amount + 1")
    @Fault(in = "ring", from = ": 0;", to = ": -1;")
    static void ringReturns(Check check) {
        MoneyBooth x = atRates(2, 4, 200, 4, 2, 50);
        check.is("just as much", 0, x.ring(2, 100));
        x.setRate(4, 2, 49);
        check.is("two less", 0, x.ring(2, 100));
        x.setRate(4, 2, 51);
        check.is("one more", 1, x.ring(2, 50));
        check.is("two more", 2, x.ring(2, 100));
        check.is("of nothing", 0, x.ring(2, 0));
        check.is("2, 1.02", 0, x.ring(2, 1));
        check.is("not by this money", 0, x.ring(0, 100));
        x.setSpread(1);
        check.is("198, 99.97", 0, x.ring(2, 100));
        x.setRate(4, 2, 52);
        check.is("198, 101.93", 1, x.ring(2, 100));
    }

    @Sentence(of = "Promise 18", words = "Throws `IndexOutOfBoundsException` if money is not 0 to 4")
    @Fault(in = "ring", from = "!isMoney(money)", to = "money < 0")
    @Fault(in = "ring", from = "!isMoney(money)", to = "money > 4")
    @Fault(in = "ring", from = "!isMoney(money)", to = "!isMoney(money) || money == 0")
    @Fault(in = "ring", from = "!isMoney(money)", to = "!isMoney(money) || money == 4")
    static void ringOfNoMoney(Check check) {
        MoneyBooth x = Booths.evenBooth();
        for (int out : Booths.OUTSIDE) {
            check.refused(x, "ring(" + out + ", 1)", Booths.NO_SUCH, () -> x.ring(out, 1));
        }
        x.setRate(0, 4, 200);
        check.is("ring(0, 1)", 1, x.ring(0, 1));
        check.is("ring(4, 1)", 1, x.ring(4, 1));
    }

    @Sentence(of = "Promise 18", words = "Throws `IllegalArgumentException` if amount is not 0 to 99999")
    @Fault(in = "ring", from = "!isAmountOrNone(amount)", to = "amount < 0")
    @Fault(in = "ring", from = "!isAmountOrNone(amount)", to = "amount > 99999")
    @Fault(in = "ring", from = "!isAmountOrNone(amount)", to = "!isNamedAmount(amount)")
    @Fault(in = "ring", from = "!isAmountOrNone(amount)", to = "amount < 0 || amount > 99998")
    @Fault(in = "ring", from = "!isAmountOrNone(amount)", to = "amount < 0 || amount > 100000")
    static void ringOfBadAmount(Check check) {
        MoneyBooth x = atRates(0, 1, 200, 1, 0, 100);
        for (int amount : Booths.NOT_EVEN_NONE) {
            check.refused(x, "ring(0, " + amount + ")", Booths.BAD, () -> x.ring(0, amount));
        }
        check.is("ring(0, 0)", 0, x.ring(0, 0));
        check.is("ring(0, 99999)", 99999, x.ring(0, 99999));
    }

    // ---- needs

    @Sentence(of = "Promise 19", words = "Returns the least rate from the one to the other one, 1 to 9999")
    @Fault(in = "leastRateFor", from = "rate > MOST_RATE", to = "rate >= MOST_RATE")
    @Fault(in = "leastRateFor", from = "rate > MOST_RATE", to = "rate > MOST_RATE + 1")
    @Fault(in = "leastRateFor", from = "asksWorth + worthOfOneRate - 1", to = "asksWorth")
    @Fault(in = "leastRateFor", from = "asksWorth + worthOfOneRate - 1", to = "asksWorth + worthOfOneRate")
    @Fault(in = "leastRateFor", from = "asksWorth + worthOfOneRate - 1", to = "asksWorth + worthOfOneRate - 2")
    @Fault(in = "leastRateFor", from = "return isAllowed", to = "if (rate < 2) { return -1; } return isAllowed")
    static void needsFromOneToMost(Check check) {
        check.is("1", 1, needsOf(100, 1));
        check.is("1, for more than that", 1, needsOf(199, 1));
        check.is("1 gives 0.99", 2, needsOf(99, 1));
        check.is("2 gives 1.98", 3, needsOf(99, 2));
        check.is("9999", 9999, needsOf(100, 9999));
        check.is("10000", -1, needsOf(99, 9900));
        check.is("10000", -1, needsOf(1, 100));
        check.is("9900", 9900, needsOf(1, 99));
        check.is("just as much", 100, needsOf(777, 777));
        check.is("100 gives 776", 101, needsOf(776, 777));
        MoneyBooth x = Booths.richIn(1);
        x.setSpread(1);
        x.order(0, 0, 1, 101, 1);
        check.is("1 gives 0.9999", 2, x.needs(0, 1));
    }

    /** What an order needs if there is enough of everything. */
    private static int needsOf(int amount, int asks) {
        MoneyBooth x = Booths.richIn(1);
        x.order(0, 0, 1, amount, asks);
        return x.needs(0, 1);
    }

    @Sentence(of = "Promise 19", words = "by which the first order that waits to change these")
    @Fault(in = "firstOrderPlace", from = "&& orderPart(place, ORDER_TO) == to", to = "")
    @Fault(in = "firstOrderPlace", from = "orderPart(place, ORDER_FROM) == from &&", to = "")
    @Fault(in = "firstOrderPlace", from = "int place = 0", to = "int place = 1")
    @Fault(in = "firstOrderPlace", from = "place < waiting", to = "place < waiting - 1")
    @Fault(in = "needs", from = "return place < 0 ? -1 : leastRateFor(place);",
            to = "int least = place < 0 ? -1 : leastRateFor(place);"
                    + " for (int behind = place + 1; place >= 0 && least < 0 && behind < waiting; behind++) {"
                    + " least = leastRateFor(behind); } return least;")
    static void needsOfTheFirst(Check check) {
        MoneyBooth x = Booths.evenBooth();
        x.order(0, 0, 2, 100, 11);
        x.order(0, 2, 1, 100, 22);
        x.order(0, 1, 0, 100, 33);
        x.order(0, 0, 1, 100, 55);
        x.order(0, 0, 1, 100, 44);
        check.is("needs(0, 1)", 55, x.needs(0, 1));
        check.is("needs(0, 2)", 11, x.needs(0, 2));
        check.is("needs(2, 1)", 22, x.needs(2, 1));
        check.is("needs(1, 0)", 33, x.needs(1, 0));
        x.cancel(3);
        check.is("the next one is first, and last of all", 44, x.needs(0, 1));
        x.order(0, 3, 4, 100, 99999);
        x.order(0, 3, 4, 100, 66);
        check.is("the first one alone counts", -1, x.needs(3, 4));
    }

    @Sentence(of = "Promise 19", words = "could be done, as all else is now")
    @Fault(in = "leastRateFor", from = "return isAllowed(purse, orderPart(place, ORDER_TO), amount, given) ? (int) rate : -1;",
            to = "return (int) rate;")
    @Fault(in = "leastRateFor", from = "isAllowed(purse,", to = "isAllowed(MOST_HELD,")
    @Fault(in = "leastRateFor", from = "isAllowed(purse,", to = "isAllowed(purse + 1,")
    @Fault(in = "leastRateFor", from = "orderPart(place, ORDER_TO), amount, given",
            to = "orderPart(place, ORDER_TO), amount, given - 1")
    @Fault(in = "leastRateFor", from = "(WHOLE_PERCENT - spread)", to = "WHOLE_PERCENT")
    @Fault(in = "isAllowed", from = "given <= stocks[to]", to = "given < stocks[to]")
    @Fault(in = "isAllowed", from = "given <= limits[to]", to = "given < limits[to]")
    @Fault(in = "isAllowed", from = "givenToday[to] + given", to = "given")
    static void needsAsAllElseIs(Check check) {
        MoneyBooth purse = Booths.withCustomers(2);
        purse.earn(1, 0, 99999);
        purse.order(0, 0, 1, 100, 50);
        check.is("nothing in the purse", -1, purse.needs(0, 1));
        purse.earn(0, 0, 99);
        check.is("99 of 100 in the purse", -1, purse.needs(0, 1));
        purse.earn(0, 0, 1);
        check.is("100 of 100 in the purse", 50, purse.needs(0, 1));
        MoneyBooth stock = Booths.evenBooth();
        stock.change(0, 2, 1, 950);
        stock.order(0, 0, 1, 100, 51);
        check.is("50 of 51 in stock", -1, stock.needs(0, 1));
        stock.stock(1, 1);
        check.is("51 of 51 in stock", 51, stock.needs(0, 1));
        MoneyBooth limit = Booths.evenBooth();
        limit.setLimit(1, 60);
        limit.order(0, 0, 1, 100, 51);
        check.is("51 of 60", 51, limit.needs(0, 1));
        limit.change(0, 2, 1, 10);
        check.is("51 of 50", -1, limit.needs(0, 1));
        limit.setLimit(1, 61);
        check.is("51 of 51", 51, limit.needs(0, 1));
        limit.setSpread(50);
        limit.cancel(0);
        limit.order(0, 0, 1, 100, 51);
        check.is("spread 50", 102, limit.needs(0, 1));
        limit.setRate(0, 1, 0);
        check.is("whatever its rate is now", 102, limit.needs(0, 1));
    }

    @Sentence(of = "Promise 19", words = "and would give at least what it asks for")
    @Fault(in = "leastRateFor", from = "orderPart(place, ORDER_ASKS) *", to = "(orderPart(place, ORDER_ASKS) - 1) *")
    @Fault(in = "leastRateFor", from = "orderPart(place, ORDER_ASKS) *", to = "(orderPart(place, ORDER_ASKS) + 1) *")
    @Fault(in = "leastRateFor", from = "long given = wholeOnes(worthOfOneRate * rate)",
            to = "long given = orderPart(place, ORDER_ASKS)")
    static void needsGivesEnough(Check check) {
        for (int asks : new int[] {1, 2, 98, 99, 100, 101, 245, 9998, 9999}) {
            MoneyBooth x = Booths.richIn(1);
            x.setRate(0, 1, 0);
            x.order(0, 0, 1, 101, asks);
            int rate = x.needs(0, 1);
            check.is("one less does not do it", 0, x.setRate(0, 1, rate - 1));
            check.is("it does it", 1, x.setRate(0, 1, rate));
        }
        MoneyBooth steps = Booths.richIn(1);
        steps.setLimit(1, 1000);
        steps.order(0, 0, 1, 90000, 500);
        check.is("1 gives 900", 1, steps.needs(0, 1));
        steps.setLimit(1, 899);
        check.is("the least that it can give is above the limit", -1, steps.needs(0, 1));
    }

    @Sentence(of = "Promise 19", words = "-1 if there is no such order or rate")
    @Fault(in = "needs", from = "place < 0 ? -1", to = "place < 0 ? 0")
    @Fault(in = "leastRateFor", from = "(int) rate : -1", to = "(int) rate : 0")
    @Fault(in = "leastRateFor", from = "if (rate > MOST_RATE) {\n            return -1;",
            to = "if (rate > MOST_RATE) {\n            return 10000;")
    @Fault(in = "firstOrderPlace", from = "return -1", to = "return 0")
    static void needsNoSuch(Check check) {
        MoneyBooth x = Booths.richIn(1);
        check.is("no order", -1, x.needs(0, 1));
        x.order(0, 1, 0, 1, 1);
        check.is("one the other way round", -1, x.needs(0, 1));
        x.order(0, 0, 1, 1, 100);
        check.is("no such rate", -1, x.needs(0, 1));
        x.cancel(1);
        check.is("no order any more", -1, x.needs(0, 1));
        x.order(0, 0, 1, 1000, 1);
        check.is("an order", 1, x.needs(0, 1));
        x.next();
        check.is("it was done", -1, x.needs(0, 1));
        x.setLimit(1, 0);
        x.order(0, 0, 1, 1000, 1);
        check.is("no rate for a limit of 0", -1, x.needs(0, 1));
        check.is("without customers", -1, new MoneyBooth().needs(4, 0));
    }

    @Sentence(of = "Promise 19", words = "(nothing is changed)")
    @Fault(in = "needs", from = "int place =", to = "rates[from * MONEYS + to] = 1; int place =")
    @Fault(in = "leastRateFor", from = "return isAllowed", to = "rates[1] = (int) rate; return isAllowed")
    @Fault(in = "leastRateFor", from = "return isAllowed", to = "keepDust(1, 1); return isAllowed")
    static void needsChangesNothing(Check check) {
        MoneyBooth x = Booths.withOrders(2);
        x.order(0, 3, 4, 1, 100);
        check.is("a rate of 100 is needed", 0, x.setRate(0, 1, 99));
        long before = x.digest();
        x.needs(0, 1);
        check.is("one that could be done", before, x.digest());
        x.needs(3, 4);
        check.is("one that could not", before, x.digest());
        x.needs(2, 4);
        check.is("none", before, x.digest());
        check.is("the orders still wait", 2, x.setRate(0, 1, 100));
    }

    @Sentence(of = "Promise 19", words = "Throws `IndexOutOfBoundsException` if from or to is not 0 to 4")
    @Fault(in = "needs", from = "!isMoney(from) ||", to = "")
    @Fault(in = "needs", from = "|| !isMoney(to)", to = "")
    @Fault(in = "needs", from = "!isMoney(from)", to = "!isMoney(from) || from == 0")
    @Fault(in = "needs", from = "!isMoney(to)", to = "!isMoney(to) || to == 4")
    static void needsOfNoMoney(Check check) {
        MoneyBooth x = Booths.evenBooth();
        for (int out : Booths.OUTSIDE) {
            check.refused(x, "needs(" + out + ", 2)", Booths.NO_SUCH, () -> x.needs(out, 2));
            check.refused(x, "needs(2, " + out + ")", Booths.NO_SUCH, () -> x.needs(2, out));
        }
        check.is("needs(0, 4)", -1, x.needs(0, 4));
        check.is("needs(4, 0)", -1, x.needs(4, 0));
    }

    @Sentence(of = "Promise 19", words = "Throws `IllegalArgumentException` if both are the same")
    @Fault(in = "needs", from = "from == to", to = "from == to && from == 0")
    @Fault(in = "needs", from = "from == to", to = "from == to && from > 0")
    static void needsOfTheSame(Check check) {
        MoneyBooth x = Booths.withOrders(1);
        for (int money = 0; money < 5; money++) {
            int same = money;
            check.refused(x, "needs of the same", Booths.BAD, () -> x.needs(same, same));
        }
    }

    // ---- mean

    @Sentence(of = "Promise 20", words = "Returns the mean of how much customers have of it; 0 without customers.")
    @Fault(in = "mean", from = "if (customers <= 0) {\n            return 0;",
            to = "if (customers <= 0) {\n            return 1;")
    @Fault(in = "mean", from = "if (customers <= 0) {\n            return 0;\n        }", to = "")
    @Fault(in = "mean", from = "if (customers <= 0)", to = "if (customers <= 1)")
    @Fault(in = "mean", from = "(double) inAllPurses", to = "inAllPurses")
    @Fault(in = "mean", from = "/ customers;", to = "/ MOST_CUSTOMERS;")
    static void meanReturns(Check check) {
        MoneyBooth x = new MoneyBooth();
        check.holds("without customers", x.mean(0) == 0 && x.mean(4) == 0);
        x.come();
        check.holds("one who has nothing", x.mean(4) == 0);
        x.earn(0, 4, 7);
        check.holds("one who has 7", x.mean(4) == 7);
        x.come();
        check.holds("half of it", x.mean(4) == 3.5);
        check.holds("of another money", x.mean(3) == 0);
        x.come();
        check.holds("a third of it", x.mean(4) == 7.0 / 3);
        x.earn(1, 4, 1);
        x.earn(2, 4, 1);
        check.holds("three whole ones", x.mean(4) == 3);
        for (int more = 3; more < 6; more++) {
            x.come();
        }
        for (int customer = 0; customer < 6; customer++) {
            Booths.fillPurse(x, customer, 4);
        }
        check.holds("six full purses", x.mean(4) == 999999);
    }

    @Sentence(of = "Promise 20", words = "Throws `IndexOutOfBoundsException` if money is not 0 to 4")
    @Fault(in = "mean", from = "!isMoney(money)", to = "money < 0")
    @Fault(in = "mean", from = "!isMoney(money)", to = "money > 4")
    @Fault(in = "mean", from = "!isMoney(money)", to = "!isMoney(money) && customers > 0")
    @Fault(in = "mean", from = "!isMoney(money)", to = "!isMoney(money) || money == 4")
    static void meanOfNoMoney(Check check) {
        MoneyBooth none = new MoneyBooth();
        MoneyBooth x = Booths.evenBooth();
        for (int out : Booths.OUTSIDE) {
            check.refused(none, "mean(" + out + ") without customers", Booths.NO_SUCH, () -> (long) none.mean(out));
            check.refused(x, "mean(" + out + ")", Booths.NO_SUCH, () -> (long) x.mean(out));
        }
        check.holds("mean(0)", x.mean(0) == 99999);
        check.holds("mean(4)", x.mean(4) == 99999);
    }

    // ---- digest

    @Sentence(of = "Promise 21", words = "A number d starts with 1367; for each of the following numbers x, d becomes "
            + "d * 31 + x, which wraps around as a 64-bit integer")
    @Fault(in = "digest", from = "long d = 1367", to = "long d = 1366")
    @Fault(in = "digest", from = "return d;", to = "return (int) d;")
    @Fault(in = "digest", from = "return d;", to = "return d & Long.MAX_VALUE;")
    @Fault(in = "digest", from = "d = d * 31 + factOfBooth(what)", to = "d = d * 33 + factOfBooth(what)")
    @Fault(in = "digestOfMoneys", from = "d = d * 31 + rateOf(money, to)", to = "d = d * 31 ^ rateOf(money, to)")
    static void digestWrapsAround(Check check) {
        boolean negative = false;
        for (int most = 0; most < 8; most++) {
            MoneyBooth x = Booths.evenBooth();
            x.setLimit(0, most);
            dueDigest(check, "limit " + most, x);
            x.setRate(2, 1, 99 + most);
            dueDigest(check, "rate " + most, x);
            negative |= x.digest() < 0;
        }
        check.holds("some are below 0", negative);
        dueDigest(check, "a new object", new MoneyBooth());
    }

    @Sentence(of = "Promise 21", words = "what count() tells, in its order; for each money what told() tells, and its "
            + "rate to each money (0 to itself), from 0 on; for each customer how much this one has of each money; for "
            + "each waiting order what about() tells, in its order.")
    @Fault(in = "digest", from = "what < COUNTS", to = "what < COUNTS - 1")
    @Fault(in = "digest", from = "int what = 0", to = "int what = 1")
    @Fault(in = "digest", from = "d = digestOfMoneys(d);", to = "")
    @Fault(in = "digest", from = "customer < customers", to = "customer < customers - 1")
    @Fault(in = "digest", from = "customer < customers", to = "customer < MOST_CUSTOMERS")
    @Fault(in = "digest", from = "place < waiting", to = "place < waiting - 1")
    @Fault(in = "digest", from = "place < waiting", to = "place < MOST_ORDERS")
    @Fault(in = "digest", from = "part < ORDER_PARTS", to = "part < ORDER_PARTS - 1")
    @Fault(in = "digest", from = "inPurse(customer, money)", to = "inPurse(customer, 4 - money)")
    @Fault(in = "digestOfMoneys", from = "what < TOLD", to = "what < TOLD - 1")
    @Fault(in = "digestOfMoneys", from = "rateOf(money, to)", to = "rateOf(to, money)")
    @Fault(in = "digestOfMoneys", from = "rateOf(money, to)", to = "(money == to ? 100 : rateOf(money, to))")
    @Fault(in = "digestOfMoneys", from = "int money = 0", to = "int money = 1")
    static void digestOfAll(Check check) {
        for (int customers = 0; customers <= 6; customers++) {
            dueDigest(check, customers + " customers", Booths.withCustomers(customers));
        }
        for (int orders = 0; orders <= 10; orders++) {
            dueDigest(check, orders + " orders", Booths.withOrders(orders));
        }
        MoneyBooth x = atRates(0, 1, 250, 3, 2, 7, 4, 0, 9999);
        for (int customer = 0; customer < 3; customer++) {
            x.come();
            x.earn(customer, customer + 1, 50 + customer);
            x.earn(customer, 0, 300 + customer);
        }
        x.next();
        x.setSpread(3);
        x.setLimit(4, 77);
        x.change(2, 0, 1, 33);
        x.order(2, 1, 0, 9, 8);
        x.order(1, 0, 1, 10, 5);
        x.order(0, 4, 3, 7, 6);
        x.setRate(1, 4, 5);
        x.order(1, 2, 3, 4, 99);
        check.is("one order is done", 1, x.count(6));
        dueDigest(check, "in use", x);
    }

    @Sentence(of = "Promise 21", words = "Returns d.")
    @Fault(in = "digest", from = "return d;", to = "day++; return d;")
    @Fault(in = "digest", from = "return d;", to = "return d + waiting / 10;")
    static void digestReturns(Check check) {
        MoneyBooth x = Booths.withOrders(10);
        dueDigest(check, "once", x);
        dueDigest(check, "and once more: asking changes nothing", x);
        check.is("count(0)", 0, x.count(0));
    }

    private static void dueDigest(Check check, String when, MoneyBooth x) {
        check.is(when + ": digest()", Booths.reckonedDigest(x), x.digest());
    }
}
