/** One method or more for each promise of the document, with answers reckoned by hand from its words. */
public final class PromisesTest {
    private static final Class<IndexOutOfBoundsException> NO_SUCH = Booths.NO_SUCH;
    private static final Class<IllegalArgumentException> BAD = Booths.BAD;
    private static final Class<IllegalStateException> NOT_NOW = Booths.NOT_NOW;
    private static final int[] OUTSIDE = Booths.OUTSIDE;
    private static final Check CHECK = new Check();

    public static void main(String[] args) {
        newObject();
        setRate();
        setRateLooksAtOrders();
        setSpread();
        setLimit();
        stock();
        next();
        come();
        earn();
        change();
        changeConditions();
        changeKeepsDust();
        changeLosesWhatIsTooMuch();
        order();
        ordersAreLookedAtInTheirOrder();
        cancel();
        has();
        told();
        about();
        count();
        would();
        way();
        wayCutsOff();
        ring();
        needs();
        needsConditions();
        mean();
        digest();
        CHECK.end();
    }

    private static void due(String call, long want, Check.Call made) {
        CHECK.due(call, want, made);
    }

    private static void dueMoney(String when, MoneyBooth x, int money, int... facts) {
        for (int what = 0; what < 5; what++) {
            int asked = what;
            due(when + ": told(" + money + ", " + what + ")", facts[what], () -> x.told(money, asked));
        }
    }

    private static void dueCounts(String when, MoneyBooth x, int... facts) {
        for (int what = 0; what < 7; what++) {
            int asked = what;
            due(when + ": count(" + what + ")", facts[what], () -> x.count(asked));
        }
    }

    private static void dueOrder(String when, MoneyBooth x, int place, int... parts) {
        for (int what = 0; what < 5; what++) {
            int asked = what;
            due(when + ": about(" + place + ", " + what + ")", parts[what], () -> x.about(place, asked));
        }
    }

    private static void newObject() {
        MoneyBooth x = new MoneyBooth();
        dueCounts("new", x, 0, 0, 0, 0, 0, 0, 0);
        for (int from = 0; from < 5; from++) {
            dueMoney("new", x, from, 1000, 0, 9999, 0, 0);
            for (int to = 0; to < 5; to++) {
                int f = from;
                int t = to;
                due("new: would(" + f + ", " + t + ", 99999)", f == t ? 99999 : 0, () -> x.would(f, t, 99999));
            }
        }
        MoneyBooth y = new MoneyBooth();
        y.setRate(0, 1, 5);
        y.come();
        dueCounts("another one was used", x, 0, 0, 0, 0, 0, 0, 0);
    }

    private static void setRate() {
        MoneyBooth x = new MoneyBooth();
        due("setRate(0, 4, 9999)", 0, () -> x.setRate(0, 4, 9999));
        due("setRate(4, 0, 1)", 0, () -> x.setRate(4, 0, 1));
        due("would(0, 4, 100)", 9999, () -> x.would(0, 4, 100));
        due("would(4, 0, 100)", 1, () -> x.would(4, 0, 100));
        due("count(4)", 2, () -> x.count(4));
        due("setRate(0, 4, 37)", 0, () -> x.setRate(0, 4, 37));
        due("would(0, 4, 100) at 37", 37, () -> x.would(0, 4, 100));
        due("setRate(0, 4, 0)", 0, () -> x.setRate(0, 4, 0));
        due("would(0, 4, 100) at 0", 0, () -> x.would(0, 4, 100));
        due("count(4) behind it", 1, () -> x.count(4));
        for (int out : OUTSIDE) {
            CHECK.refused(x, "setRate(" + out + ", 0, -1)", NO_SUCH, () -> x.setRate(out, 0, -1));
            CHECK.refused(x, "setRate(0, " + out + ", 1)", NO_SUCH, () -> x.setRate(0, out, 1));
            CHECK.refused(x, "setRate(" + out + ", " + out + ", 1)", NO_SUCH, () -> x.setRate(out, out, 1));
        }
        CHECK.refused(x, "setRate(3, 3, 1)", BAD, () -> x.setRate(3, 3, 1));
        CHECK.refused(x, "setRate(0, 1, -1)", BAD, () -> x.setRate(0, 1, -1));
        CHECK.refused(x, "setRate(0, 1, 10000)", BAD, () -> x.setRate(0, 1, 10000));
        CHECK.refused(x, "setRate(0, 1, MIN)", BAD, () -> x.setRate(0, 1, Integer.MIN_VALUE));
    }

    private static void setRateLooksAtOrders() {
        MoneyBooth x = Booths.withCustomers(1);
        x.setRate(0, 1, 100);
        x.order(0, 0, 1, 50, 60);
        due("setRate(0, 1, 120), nothing in the purse", 0, () -> x.setRate(0, 1, 120));
        x.earn(0, 0, 50);
        due("has(0, 0): earning looks at no order", 50, () -> x.has(0, 0));
        due("setRate(0, 1, 119)", 0, () -> x.setRate(0, 1, 119));
        due("setRate(0, 1, 120)", 1, () -> x.setRate(0, 1, 120));
        due("has(0, 1)", 60, () -> x.has(0, 1));
        due("count(3)", 0, () -> x.count(3));
        x.order(0, 1, 2, 10, 1);
        x.setRate(1, 2, 10);
        due("done by setRate", 1, () -> x.has(0, 2));
        x.order(0, 1, 2, 10, 1);
        due("the same rate once more", 1, () -> x.setRate(1, 2, 10));
        x.order(0, 1, 2, 10, 1);
        due("a rate of other moneys", 1, () -> x.setRate(4, 3, 0));
    }

    private static void setSpread() {
        MoneyBooth x = Booths.withCustomers(1);
        x.setRate(0, 1, 100);
        due("setSpread(50)", 0, () -> x.setSpread(50));
        due("would(0, 1, 100)", 50, () -> x.would(0, 1, 100));
        due("count(1)", 50, () -> x.count(1));
        due("setSpread(0)", 0, () -> x.setSpread(0));
        due("would(0, 1, 100) at 0", 100, () -> x.would(0, 1, 100));
        for (int spread : new int[] {-1, 51, Integer.MIN_VALUE, Integer.MAX_VALUE}) {
            CHECK.refused(x, "setSpread(" + spread + ")", BAD, () -> x.setSpread(spread));
        }
        x.earn(0, 0, 300);
        x.setSpread(10);
        x.order(0, 0, 1, 100, 95);
        x.order(0, 0, 1, 100, 96);
        x.order(0, 0, 1, 100, 94);
        due("setSpread(6)", 1, () -> x.setSpread(6));
        due("setSpread(5)", 1, () -> x.setSpread(5));
        dueOrder("one left", x, 0, 0, 0, 1, 100, 96);
        x.earn(0, 0, 1);
        x.order(0, 0, 1, 1, 1);
        x.setSpread(4);
        dueCounts("all are done", x, 0, 4, 1, 1, 1, 3, 3);
    }

    private static void setLimit() {
        MoneyBooth x = Booths.evenBooth();
        due("setLimit(2, 0)", 9999, () -> x.setLimit(2, 0));
        due("setLimit(2, 99999)", 0, () -> x.setLimit(2, 99999));
        due("setLimit(2, 30)", 99999, () -> x.setLimit(2, 30));
        due("told(2, 2)", 30, () -> x.told(2, 2));
        due("told(1, 2)", 9999, () -> x.told(1, 2));
        due("change(0, 0, 2, 20)", 20, () -> x.change(0, 0, 2, 20));
        CHECK.refused(x, "change(0, 0, 2, 11)", NOT_NOW, () -> x.change(0, 0, 2, 11));
        due("change(0, 1, 2, 10)", 10, () -> x.change(0, 1, 2, 10));
        CHECK.refused(x, "change(0, 0, 2, 1)", NOT_NOW, () -> x.change(0, 0, 2, 1));
        due("setLimit(2, 5), less than was given", 30, () -> x.setLimit(2, 5));
        CHECK.refused(x, "change(0, 0, 2, 1)", NOT_NOW, () -> x.change(0, 0, 2, 1));
        x.order(0, 0, 2, 1, 1);
        due("setLimit(2, 31)", 5, () -> x.setLimit(2, 31));
        due("a limit looks at no order", 1, () -> x.count(3));
        for (int out : OUTSIDE) {
            CHECK.refused(x, "setLimit(" + out + ", -1)", NO_SUCH, () -> x.setLimit(out, -1));
        }
        CHECK.refused(x, "setLimit(0, -1)", BAD, () -> x.setLimit(0, -1));
        CHECK.refused(x, "setLimit(0, 100000)", BAD, () -> x.setLimit(0, 100000));
    }

    private static void stock() {
        MoneyBooth x = Booths.evenBooth();
        due("stock(3, 1)", 1001, () -> x.stock(3, 1));
        due("stock(3, 99999)", 101000, () -> x.stock(3, 99999));
        for (int i = 0; i < 8; i++) {
            x.stock(3, 99999);
        }
        due("stock(3, 98007)", 998999, () -> x.stock(3, 98007));
        due("stock(3, 1000)", 999999, () -> x.stock(3, 1000));
        due("stock(3, 1)", 999999, () -> x.stock(3, 1));
        dueMoney("another one", x, 2, 1000, 0, 9999, 0, 99999);
        x.order(0, 0, 1, 1001, 1001);
        due("stock(1, 1)", 1001, () -> x.stock(1, 1));
        due("stock looks at no order", 1, () -> x.count(3));
        due("next()", 1, () -> x.next());
        for (int out : OUTSIDE) {
            CHECK.refused(x, "stock(" + out + ", 0)", NO_SUCH, () -> x.stock(out, 0));
        }
        for (int more : new int[] {0, -1, 100000, Integer.MAX_VALUE, Integer.MIN_VALUE}) {
            CHECK.refused(x, "stock(0, " + more + ")", BAD, () -> x.stock(0, more));
        }
    }

    private static void next() {
        MoneyBooth x = Booths.evenBooth();
        for (int money = 0; money < 5; money++) {
            x.setLimit(money, 10);
            x.change(0, money, (money + 1) % 5, 10);
        }
        x.order(0, 0, 1, 10, 10);
        x.order(0, 0, 1, 1, 1);
        x.order(0, 0, 2, 10, 10);
        due("setSpread(0)", 0, () -> x.setSpread(0));
        due("next()", 2, () -> x.next());
        due("count(0)", 1, () -> x.count(0));
        dueMoney("next day", x, 1, 990, 0, 10, 10, 100009);
        dueMoney("next day", x, 0, 1020, 0, 10, 0, 99979);
        dueMoney("next day", x, 4, 1000, 0, 10, 0, 99999);
        dueOrder("that stays", x, 0, 0, 0, 1, 1, 1);
        due("next()", 1, () -> x.next());
        due("next()", 0, () -> x.next());
        due("count(0)", 3, () -> x.count(0));
        due("told(1, 3)", 0, () -> x.told(1, 3));
    }

    private static void come() {
        MoneyBooth x = new MoneyBooth();
        for (int i = 0; i < 6; i++) {
            int number = i;
            due("come()", number, () -> x.come());
            due("count(2)", number + 1, () -> x.count(2));
            for (int money = 0; money < 5; money++) {
                int m = money;
                due("has(" + number + ", " + m + ")", 0, () -> x.has(number, m));
            }
        }
        CHECK.refused(x, "come()", NOT_NOW, () -> x.come());
        CHECK.refused(x, "come()", NOT_NOW, () -> x.come());
        due("count(2)", 6, () -> x.count(2));
    }

    private static void earn() {
        MoneyBooth x = Booths.withCustomers(2);
        due("earn(0, 4, 1)", 1, () -> x.earn(0, 4, 1));
        due("earn(0, 4, 99999)", 100000, () -> x.earn(0, 4, 99999));
        due("earn(1, 0, 7)", 7, () -> x.earn(1, 0, 7));
        for (int i = 0; i < 8; i++) {
            x.earn(0, 4, 99999);
        }
        due("earn(0, 4, 99999)", 999991, () -> x.earn(0, 4, 99999));
        due("earn(0, 4, 8)", 999999, () -> x.earn(0, 4, 8));
        due("earn(0, 4, 99999)", 999999, () -> x.earn(0, 4, 99999));
        due("has(1, 4)", 0, () -> x.has(1, 4));
        due("told(4, 4)", 999999, () -> x.told(4, 4));
        due("told(4, 0)", 1000, () -> x.told(4, 0));
        for (int out : OUTSIDE) {
            CHECK.refused(x, "earn(0, " + out + ", 0)", NO_SUCH, () -> x.earn(0, out, 0));
            CHECK.refused(x, "earn(" + out + ", 0, 0)", NO_SUCH, () -> x.earn(out, 0, 0));
        }
        CHECK.refused(x, "earn(2, 0, 1)", NO_SUCH, () -> x.earn(2, 0, 1));
        for (int more : new int[] {0, -1, 100000, Integer.MAX_VALUE, Integer.MIN_VALUE}) {
            CHECK.refused(x, "earn(0, 0, " + more + ")", BAD, () -> x.earn(0, 0, more));
        }
    }

    private static void change() {
        MoneyBooth x = Booths.withCustomers(2);
        x.earn(0, 0, 500);
        x.earn(1, 1, 5);
        x.setRate(0, 1, 250);
        due("change(0, 0, 1, 33)", 82, () -> x.change(0, 0, 1, 33));
        dueMoney("paid", x, 0, 1033, 0, 9999, 0, 467);
        dueMoney("given", x, 1, 918, 5000, 9999, 82, 87);
        due("has(0, 0)", 467, () -> x.has(0, 0));
        due("has(0, 1)", 82, () -> x.has(0, 1));
        due("has(1, 1)", 5, () -> x.has(1, 1));
        x.setSpread(3);
        due("change(0, 0, 1, 33), spread 3", 80, () -> x.change(0, 0, 1, 33));
        dueMoney("given twice", x, 1, 838, 5250, 9999, 162, 167);
        dueCounts("changed twice", x, 0, 3, 2, 0, 1, 2, 0);
        for (int out : OUTSIDE) {
            CHECK.refused(x, "change(" + out + ", 0, 1, 1)", NO_SUCH, () -> x.change(out, 0, 1, 1));
            CHECK.refused(x, "change(0, " + out + ", 1, 1)", NO_SUCH, () -> x.change(0, out, 1, 1));
            CHECK.refused(x, "change(0, 0, " + out + ", 1)", NO_SUCH, () -> x.change(0, 0, out, 1));
            CHECK.refused(x, "change(0, " + out + ", " + out + ", 0)", NO_SUCH, () -> x.change(0, out, out, 0));
        }
        CHECK.refused(x, "change(2, 0, 0, 0)", NO_SUCH, () -> x.change(2, 0, 0, 0));
        CHECK.refused(x, "change(0, 1, 1, 1)", NOT_NOW, () -> x.change(0, 1, 1, 1));
    }

    private static void changeConditions() {
        MoneyBooth x = Booths.withCustomers(2);
        x.earn(0, 0, 99999);
        x.earn(1, 0, 10);
        CHECK.refused(x, "change at a rate of 0", NOT_NOW, () -> x.change(0, 0, 1, 10));
        x.setRate(0, 1, 100);
        x.setRate(0, 2, 9);
        for (int amount : new int[] {0, -1, -100, Integer.MIN_VALUE, Integer.MAX_VALUE}) {
            CHECK.refused(x, "change(0, 0, 1, " + amount + ")", NOT_NOW, () -> x.change(0, 0, 1, amount));
        }
        CHECK.refused(x, "change(1, 0, 1, 11) of 10", NOT_NOW, () -> x.change(1, 0, 1, 11));
        due("change(1, 0, 1, 10) of 10", 10, () -> x.change(1, 0, 1, 10));
        due("has(1, 0)", 0, () -> x.has(1, 0));
        CHECK.refused(x, "nothing is given", NOT_NOW, () -> x.change(0, 0, 2, 11));
        due("one is given", 1, () -> x.change(0, 0, 2, 12));
        CHECK.refused(x, "more than the stock", NOT_NOW, () -> x.change(0, 0, 1, 991));
        due("the whole stock", 990, () -> x.change(0, 0, 1, 990));
        due("told(1, 0)", 0, () -> x.told(1, 0));
        CHECK.refused(x, "no stock", NOT_NOW, () -> x.change(0, 0, 1, 1));
        x.stock(1, 99999);
        CHECK.refused(x, "more than the limit", NOT_NOW, () -> x.change(0, 0, 1, 9000));
        due("up to the limit", 8999, () -> x.change(0, 0, 1, 8999));
        x.setRate(0, 1, 9999);
        for (int i = 0; i < 9; i++) {
            x.earn(0, 0, 99999);
        }
        CHECK.refused(x, "what int can not hold", NOT_NOW, () -> x.change(0, 0, 1, 900000));
        // 4296 * 9999 * 100 is 603104 more than 2^32: as an int it would pass for 60
        CHECK.refused(x, "what wraps around in int", NOT_NOW, () -> x.change(0, 0, 1, 4296));
    }

    private static void changeKeepsDust() {
        MoneyBooth x = Booths.withCustomers(1);
        x.earn(0, 0, 99999);
        x.setRate(0, 1, 250);
        due("change", 82, () -> x.change(0, 0, 1, 33));
        due("told(1, 1)", 5000, () -> x.told(1, 1));
        due("change", 82, () -> x.change(0, 0, 1, 33));
        dueMoney("a full 10000 of dust", x, 1, 837, 0, 9999, 164, 164);
        x.setRate(0, 1, 299);
        due("change(0, 0, 1, 1)", 2, () -> x.change(0, 0, 1, 1));
        due("told(1, 1)", 9900, () -> x.told(1, 1));
        due("change(0, 0, 1, 1)", 2, () -> x.change(0, 0, 1, 1));
        dueMoney("more than 10000 of dust", x, 1, 834, 9800, 9999, 168, 168);
        dueMoney("dust of the other one alone", x, 0, 1068, 0, 9999, 0, 99931);
        // the stock may be all given and dust still makes one more
        due("change to the last one", 834, () -> changeAt(x, 834));
        dueMoney("all given", x, 1, 0, 9800, 9999, 1002, 1002);
        x.stock(1, 2);
        x.setRate(0, 1, 299);
        due("change(0, 0, 1, 1)", 2, () -> x.change(0, 0, 1, 1));
        dueMoney("one out of dust", x, 1, 1, 9700, 9999, 1004, 1004);
    }

    private static long changeAt(MoneyBooth x, int amount) {
        x.setRate(0, 1, 100);
        return x.change(0, 0, 1, amount);
    }

    private static void changeLosesWhatIsTooMuch() {
        MoneyBooth x = Booths.evenBooth();
        for (int i = 0; i < 10; i++) {
            x.earn(0, 1, 99999);
            x.stock(0, 99999);
        }
        x.change(0, 1, 2, 5);
        due("has(0, 1)", 999994, () -> x.has(0, 1));
        due("change(0, 0, 1, 20)", 20, () -> x.change(0, 0, 1, 20));
        due("the purse is full", 999999, () -> x.has(0, 1));
        due("the stock is full", 999999, () -> x.told(0, 0));
        due("told(1, 0)", 985, () -> x.told(1, 0));
        due("has(0, 0)", 99979, () -> x.has(0, 0));
        x.setLimit(0, 99999);
        x.setRate(1, 0, 199);
        due("change(0, 1, 0, 1)", 1, () -> x.change(0, 1, 0, 1));
        due("told(0, 0)", 999998, () -> x.told(0, 0));
        due("change(0, 1, 0, 1)", 1, () -> x.change(0, 1, 0, 1));
        dueMoney("full again but for one", x, 0, 999998, 9800, 99999, 2, 99981);
    }

    private static void order() {
        MoneyBooth x = Booths.withCustomers(3);
        due("order(0, 0, 1, 1, 1)", 1, () -> x.order(0, 0, 1, 1, 1));
        due("order(2, 3, 4, 99999, 99999)", 2, () -> x.order(2, 3, 4, 99999, 99999));
        dueOrder("first", x, 0, 0, 0, 1, 1, 1);
        dueOrder("second", x, 1, 2, 3, 4, 99999, 99999);
        for (int out : OUTSIDE) {
            CHECK.refused(x, "order(" + out + ", 0, 0, 0, 0)", NO_SUCH, () -> x.order(out, 0, 0, 0, 0));
            CHECK.refused(x, "order(0, " + out + ", 0, 0, 1)", NO_SUCH, () -> x.order(0, out, 0, 0, 1));
            CHECK.refused(x, "order(0, 0, " + out + ", 1, 0)", NO_SUCH, () -> x.order(0, 0, out, 1, 0));
        }
        CHECK.refused(x, "order(3, 0, 1, 1, 1)", NO_SUCH, () -> x.order(3, 0, 1, 1, 1));
        CHECK.refused(x, "order(0, 2, 2, 1, 1)", BAD, () -> x.order(0, 2, 2, 1, 1));
        for (int bad : new int[] {0, -1, 100000, Integer.MAX_VALUE, Integer.MIN_VALUE}) {
            CHECK.refused(x, "order(0, 0, 1, " + bad + ", 1)", BAD, () -> x.order(0, 0, 1, bad, 1));
            CHECK.refused(x, "order(0, 0, 1, 1, " + bad + ")", BAD, () -> x.order(0, 0, 1, 1, bad));
        }
        for (int i = 3; i <= 10; i++) {
            int waiting = i;
            due("order", waiting, () -> x.order(1, 4, 0, waiting, 2));
        }
        CHECK.refused(x, "an eleventh order", NOT_NOW, () -> x.order(0, 0, 1, 1, 1));
        CHECK.refused(x, "an eleventh of no customer", NO_SUCH, () -> x.order(3, 0, 1, 1, 1));
        CHECK.refused(x, "an eleventh of no amount", BAD, () -> x.order(0, 0, 1, 0, 1));
        dueOrder("tenth", x, 9, 1, 4, 0, 10, 2);
        MoneyBooth y = Booths.evenBooth();
        y.order(0, 0, 1, 10, 10);
        due("not looked at at once", 1, () -> y.count(3));
        due("has(0, 0)", 99999, () -> y.has(0, 0));
        due("told(1, 0)", 1000, () -> y.told(1, 0));
    }

    private static void ordersAreLookedAtInTheirOrder() {
        MoneyBooth x = Booths.evenBooth();
        x.order(0, 0, 1, 600, 1);
        x.order(0, 0, 1, 600, 1);
        x.order(0, 0, 1, 400, 1);
        due("as those ahead left the stock", 2, () -> x.next());
        dueOrder("the second is left", x, 0, 0, 0, 1, 600, 1);
        dueMoney("given", x, 1, 0, 0, 9999, 1000, 100999);
        dueCounts("two done", x, 1, 0, 1, 1, 20, 2, 2);

        MoneyBooth ahead = Booths.evenBooth();
        ahead.order(0, 0, 1, 500, 500);
        ahead.order(0, 1, 0, 1200, 1200);
        due("what the first paid in serves the second", 2, () -> ahead.next());

        MoneyBooth behind = Booths.evenBooth();
        behind.order(0, 1, 0, 1200, 1200);
        behind.order(0, 0, 1, 500, 500);
        due("each is looked at once", 1, () -> behind.next());
        due("again on another day", 1, () -> behind.next());

        MoneyBooth purse = Booths.withCustomers(2);
        purse.earn(1, 0, 10);
        purse.setRate(0, 1, 200);
        purse.order(0, 0, 1, 10, 1);
        purse.order(1, 0, 1, 10, 20);
        purse.order(1, 1, 2, 20, 10);
        due("what the first gave pays the second", 2, () -> purse.setRate(1, 2, 50));
        dueOrder("that of the poor one stays", purse, 0, 0, 0, 1, 10, 1);
        due("has(1, 2)", 10, () -> purse.has(1, 2));

        MoneyBooth gaps = Booths.evenBooth();
        for (int i = 0; i < 10; i++) {
            gaps.order(0, 0, 1 + i % 4, 1 + i, i % 3 == 0 ? 50 : 1);
        }
        due("every third asks for too much", 6, () -> gaps.setSpread(0));
        for (int i = 0; i < 4; i++) {
            dueOrder("kept in their order", gaps, i, 0, 0, 1 + 3 * i % 4, 1 + 3 * i, 50);
        }
        dueCounts("six done", gaps, 0, 0, 1, 4, 20, 6, 6);
    }

    private static void cancel() {
        MoneyBooth x = Booths.withCustomers(4);
        CHECK.refused(x, "cancel(0) without orders", NO_SUCH, () -> x.cancel(0));
        for (int i = 0; i < 4; i++) {
            x.order(3 - i, i, i + 1, 10 + i, 20 + i);
        }
        for (int out : new int[] {-1, 4, 9, 10, Integer.MIN_VALUE, Integer.MAX_VALUE}) {
            CHECK.refused(x, "cancel(" + out + ")", NO_SUCH, () -> x.cancel(out));
        }
        due("cancel(1)", 2, () -> x.cancel(1));
        due("count(3)", 3, () -> x.count(3));
        dueOrder("ahead of it", x, 0, 3, 0, 1, 10, 20);
        dueOrder("behind it", x, 1, 1, 2, 3, 12, 22);
        dueOrder("last", x, 2, 0, 3, 4, 13, 23);
        due("cancel(2)", 0, () -> x.cancel(2));
        due("cancel(0)", 3, () -> x.cancel(0));
        due("cancel(0)", 1, () -> x.cancel(0));
        dueCounts("no order was done", x, 0, 0, 4, 0, 0, 0, 0);
        CHECK.refused(x, "cancel(0)", NO_SUCH, () -> x.cancel(0));
    }

    private static void has() {
        MoneyBooth x = Booths.withCustomers(6);
        for (int customer = 0; customer < 6; customer++) {
            for (int money = 0; money < 5; money++) {
                x.earn(customer, money, 100 + 10 * customer + money);
            }
        }
        for (int customer = 0; customer < 6; customer++) {
            for (int money = 0; money < 5; money++) {
                int c = customer;
                int m = money;
                due("has(" + c + ", " + m + ")", 100 + 10 * c + m, () -> x.has(c, m));
            }
        }
        MoneyBooth y = Booths.withCustomers(1);
        for (int out : OUTSIDE) {
            CHECK.refused(y, "has(" + out + ", 0)", NO_SUCH, () -> y.has(out, 0));
            CHECK.refused(y, "has(0, " + out + ")", NO_SUCH, () -> y.has(0, out));
        }
        CHECK.refused(y, "has(1, 0)", NO_SUCH, () -> y.has(1, 0));
        CHECK.refused(x, "has(6, 0)", NO_SUCH, () -> x.has(6, 0));
    }

    private static void told() {
        MoneyBooth x = Booths.withCustomers(2);
        x.earn(0, 3, 700);
        x.earn(1, 3, 50);
        x.earn(1, 2, 300);
        x.setLimit(3, 444);
        x.setRate(2, 3, 133);
        x.change(1, 2, 3, 1);
        dueMoney("told", x, 3, 999, 3300, 444, 1, 751);
        dueMoney("told", x, 2, 1001, 0, 9999, 0, 299);
        dueMoney("told", x, 4, 1000, 0, 9999, 0, 0);
        for (int out : OUTSIDE) {
            CHECK.refused(x, "told(" + out + ", 0)", NO_SUCH, () -> x.told(out, 0));
            CHECK.refused(x, "told(0, " + out + ")", NO_SUCH, () -> x.told(0, out));
        }
        MoneyBooth rich = Booths.withCustomers(6);
        for (int customer = 0; customer < 6; customer++) {
            for (int i = 0; i < 11; i++) {
                rich.earn(customer, 4, 99999);
            }
        }
        due("six full purses", 5999994, () -> rich.told(4, 4));
    }

    private static void about() {
        MoneyBooth x = Booths.withCustomers(2);
        CHECK.refused(x, "about(0, 0) without orders", NO_SUCH, () -> x.about(0, 0));
        x.order(1, 4, 2, 77, 88);
        dueOrder("about", x, 0, 1, 4, 2, 77, 88);
        for (int out : OUTSIDE) {
            CHECK.refused(x, "about(" + out + ", 0)", NO_SUCH, () -> x.about(out, 0));
            CHECK.refused(x, "about(0, " + out + ")", NO_SUCH, () -> x.about(0, out));
        }
        CHECK.refused(x, "about(1, 0)", NO_SUCH, () -> x.about(1, 0));
        for (int i = 1; i < 10; i++) {
            x.order(0, 0, 1, i, i);
        }
        CHECK.refused(x, "about(10, 0)", NO_SUCH, () -> x.about(10, 0));
    }

    private static void count() {
        MoneyBooth x = Booths.withCustomers(3);
        x.next();
        x.next();
        x.setSpread(7);
        x.setRate(0, 1, 500);
        x.setRate(1, 0, 1);
        x.setRate(1, 4, 9);
        x.setRate(4, 1, 0);
        x.earn(2, 0, 100);
        x.change(2, 0, 1, 1);
        x.order(2, 0, 1, 1, 1);
        x.order(2, 0, 1, 1, 5);
        x.order(1, 0, 1, 1, 1);
        x.setSpread(6);
        dueCounts("count", x, 2, 6, 3, 2, 3, 2, 1);
        for (int out : new int[] {-1, 7, Integer.MIN_VALUE, Integer.MAX_VALUE}) {
            CHECK.refused(x, "count(" + out + ")", NO_SUCH, () -> x.count(out));
        }
        MoneyBooth even = Booths.evenBooth();
        due("all rates", 20, () -> even.count(4));
    }

    private static void would() {
        MoneyBooth x = new MoneyBooth();
        x.setRate(0, 1, 9999);
        x.setRate(0, 2, 1);
        x.setLimit(1, 0);
        due("would(0, 1, 99999)", 9998900, () -> x.would(0, 1, 99999));
        due("would(0, 1, 0)", 0, () -> x.would(0, 1, 0));
        due("would(1, 0, 5) at 0", 0, () -> x.would(1, 0, 5));
        due("would(0, 2, 99)", 0, () -> x.would(0, 2, 99));
        due("would(0, 2, 100)", 1, () -> x.would(0, 2, 100));
        due("would(0, 2, 199)", 1, () -> x.would(0, 2, 199));
        due("would(3, 3, 99999)", 99999, () -> x.would(3, 3, 99999));
        due("would(3, 3, 0)", 0, () -> x.would(3, 3, 0));
        x.setSpread(50);
        due("would(0, 1, 99999), spread 50", 4999450, () -> x.would(0, 1, 99999));
        due("would(0, 2, 199), spread 50", 0, () -> x.would(0, 2, 199));
        due("would(0, 2, 200), spread 50", 1, () -> x.would(0, 2, 200));
        due("would(4, 4, 10), spread 50", 10, () -> x.would(4, 4, 10));
        for (int out : OUTSIDE) {
            CHECK.refused(x, "would(" + out + ", 0, -1)", NO_SUCH, () -> x.would(out, 0, -1));
            CHECK.refused(x, "would(0, " + out + ", 1)", NO_SUCH, () -> x.would(0, out, 1));
            CHECK.refused(x, "would(" + out + ", " + out + ", 1)", NO_SUCH, () -> x.would(out, out, 1));
        }
        for (int amount : new int[] {-1, 100000, Integer.MIN_VALUE, Integer.MAX_VALUE}) {
            CHECK.refused(x, "would(0, 1, " + amount + ")", BAD, () -> x.would(0, 1, amount));
            CHECK.refused(x, "would(2, 2, " + amount + ")", BAD, () -> x.would(2, 2, amount));
        }
    }

    private static void way() {
        MoneyBooth x = new MoneyBooth();
        due("no way", 0, () -> x.way(0, 1, 100));
        x.setRate(0, 2, 150);
        x.setRate(2, 4, 150);
        x.setRate(4, 3, 150);
        due("still no way", 0, () -> x.way(0, 1, 100));
        x.setRate(3, 1, 150);
        due("four changes: 150, 225, 337, 505", 505, () -> x.way(0, 1, 100));
        x.setRate(0, 1, 505);
        due("the straight way as good", 505, () -> x.way(0, 1, 100));
        x.setRate(0, 1, 506);
        due("the straight way is better", 506, () -> x.way(0, 1, 100));
        x.setRate(4, 1, 225);
        due("three changes: 150, 225, 506", 506, () -> x.way(0, 1, 100));
        x.setRate(4, 1, 226);
        due("three changes: 150, 225, 508", 508, () -> x.way(0, 1, 100));
        x.setRate(2, 1, 340);
        due("two changes: 150, 510", 510, () -> x.way(0, 1, 100));
        due("way(0, 1, 0)", 0, () -> x.way(0, 1, 0));
        due("way(0, 1, 1): 5 is most", 5, () -> x.way(0, 1, 1));
        x.setSpread(50);
        due("spread at each change: 253 straight, 75 * 340 * 50 = 127", 253, () -> x.way(0, 1, 100));
        x.setSpread(0);
        // money is made between 0 and 3, but neither may be come to twice
        x.setRate(3, 0, 9999);
        x.setRate(0, 3, 9999);
        x.setRate(1, 0, 9999);
        due("9999, 14998, straight on", 14998, () -> x.way(0, 1, 100));
        for (int out : OUTSIDE) {
            CHECK.refused(x, "way(" + out + ", 0, -1)", NO_SUCH, () -> x.way(out, 0, -1));
            CHECK.refused(x, "way(0, " + out + ", 1)", NO_SUCH, () -> x.way(0, out, 1));
            CHECK.refused(x, "way(" + out + ", " + out + ", 1)", NO_SUCH, () -> x.way(out, out, 1));
        }
        CHECK.refused(x, "way(2, 2, 1)", BAD, () -> x.way(2, 2, 1));
        for (int amount : new int[] {-1, 100000, Integer.MIN_VALUE, Integer.MAX_VALUE}) {
            CHECK.refused(x, "way(0, 1, " + amount + ")", BAD, () -> x.way(0, 1, amount));
        }
    }

    private static void wayCutsOff() {
        MoneyBooth x = new MoneyBooth();
        x.setRate(0, 1, 9999);
        x.setRate(1, 2, 9999);
        x.setRate(2, 3, 9999);
        due("way(0, 3, 99999)", 2147483647, () -> x.way(0, 3, 99999));
        due("way(0, 2, 99999): 9998900 * 99.99", 999790011, () -> x.way(0, 2, 99999));
        x.setRate(3, 4, 1);
        due("cut off behind each: 2147483647 / 100", 21474836, () -> x.way(0, 4, 99999));
        x.setRate(3, 4, 100);
        due("way(0, 4, 99999)", 2147483647, () -> x.way(0, 4, 99999));
    }

    private static void ring() {
        MoneyBooth x = new MoneyBooth();
        due("no ring", 0, () -> x.ring(0, 100));
        x.setRate(0, 1, 200);
        due("not back", 0, () -> x.ring(0, 100));
        x.setRate(1, 0, 50);
        due("as much as was paid in", 0, () -> x.ring(0, 100));
        x.setRate(1, 0, 49);
        due("less than was paid in", 0, () -> x.ring(0, 100));
        x.setRate(1, 0, 51);
        due("two changes: 200, 102", 2, () -> x.ring(0, 100));
        due("ring(1, 100): 51, 102", 2, () -> x.ring(1, 100));
        due("ring(2, 100)", 0, () -> x.ring(2, 100));
        x.setRate(1, 2, 100);
        x.setRate(2, 0, 53);
        due("three changes: 200, 200, 106", 6, () -> x.ring(0, 100));
        x.setRate(2, 3, 100);
        x.setRate(3, 0, 54);
        due("four changes: 108", 8, () -> x.ring(0, 100));
        x.setRate(3, 4, 100);
        x.setRate(4, 0, 55);
        due("five changes: 110", 10, () -> x.ring(0, 100));
        due("ring(3, 100): 100, 55, 110, 110, 110", 10, () -> x.ring(3, 100));
        due("ring(0, 0)", 0, () -> x.ring(0, 0));
        due("ring(0, 1): 2, 2, 2, 2, 1", 0, () -> x.ring(0, 1));
        x.setSpread(2);
        due("spread 2: 196, 97 * 98 by two", 0, () -> x.ring(0, 100));
        x.setSpread(0);
        // each round from 1 to 2 and back makes 50 times as much, but neither may be come to twice
        x.setRate(2, 1, 5000);
        due("no other money twice", 10, () -> x.ring(0, 100));
        for (int out : OUTSIDE) {
            CHECK.refused(x, "ring(" + out + ", -1)", NO_SUCH, () -> x.ring(out, -1));
        }
        for (int amount : new int[] {-1, 100000, Integer.MIN_VALUE, Integer.MAX_VALUE}) {
            CHECK.refused(x, "ring(0, " + amount + ")", BAD, () -> x.ring(0, amount));
        }
        MoneyBooth high = new MoneyBooth();
        for (int money = 0; money < 5; money++) {
            high.setRate(money, (money + 1) % 5, 9999);
        }
        due("cut off", 2147383648, () -> high.ring(0, 99999));
        high.setRate(4, 0, 1);
        due("cut off behind each: 2147483647 / 100 - 99999", 21374837, () -> high.ring(0, 99999));
        MoneyBooth twoRings = new MoneyBooth();
        twoRings.setRate(0, 1, 200);
        twoRings.setRate(1, 0, 100);
        twoRings.setRate(0, 2, 300);
        twoRings.setRate(2, 0, 100);
        due("a ring is at its end when it is back", 200, () -> twoRings.ring(0, 100));
    }

    private static void needs() {
        MoneyBooth x = Booths.withCustomers(2);
        due("no order", -1, () -> x.needs(0, 1));
        x.earn(0, 0, 1000);
        x.order(0, 0, 1, 100, 245);
        due("needs(0, 1)", 245, () -> x.needs(0, 1));
        due("needs(1, 0)", -1, () -> x.needs(1, 0));
        due("needs(0, 2)", -1, () -> x.needs(0, 2));
        x.order(0, 0, 1, 100, 7);
        due("the first one", 245, () -> x.needs(0, 1));
        x.setSpread(3);
        due("spread 3: 252 gives 244, 253 gives 245", 253, () -> x.needs(0, 1));
        due("nothing is changed", 2, () -> x.count(3));
        due("count(4)", 0, () -> x.count(4));
        x.cancel(0);
        due("the second one", 8, () -> x.needs(0, 1));
        due("setRate(0, 1, 7)", 0, () -> x.setRate(0, 1, 7));
        due("whatever the rate is", 8, () -> x.needs(0, 1));
        due("setRate(0, 1, 8)", 1, () -> x.setRate(0, 1, 8));
        x.setSpread(0);
        x.order(0, 0, 1, 1, 99);
        due("needs(0, 1)", 9900, () -> x.needs(0, 1));
        x.cancel(0);
        x.order(0, 0, 1, 1, 100);
        due("above 9999", -1, () -> x.needs(0, 1));
        x.cancel(0);
        x.order(0, 0, 1, 101, 100);
        due("99 gives 99", 100, () -> x.needs(0, 1));
        x.cancel(0);
        x.order(0, 0, 1, 500, 1);
        due("1 is the least rate", 1, () -> x.needs(0, 1));
        for (int out : OUTSIDE) {
            CHECK.refused(x, "needs(" + out + ", 0)", NO_SUCH, () -> x.needs(out, 0));
            CHECK.refused(x, "needs(0, " + out + ")", NO_SUCH, () -> x.needs(0, out));
            CHECK.refused(x, "needs(" + out + ", " + out + ")", NO_SUCH, () -> x.needs(out, out));
        }
        CHECK.refused(x, "needs(0, 0)", BAD, () -> x.needs(0, 0));
    }

    private static void needsConditions() {
        MoneyBooth x = Booths.withCustomers(2);
        x.earn(0, 0, 99);
        x.order(0, 0, 1, 100, 50);
        x.order(0, 0, 1, 10, 50);
        due("the first has not so much, the second does not count", -1, () -> x.needs(0, 1));
        x.earn(0, 0, 1);
        due("it has now", 50, () -> x.needs(0, 1));
        x.setLimit(1, 49);
        due("above the limit", -1, () -> x.needs(0, 1));
        x.setLimit(1, 50);
        due("at the limit", 50, () -> x.needs(0, 1));
        x.earn(1, 2, 10);
        x.setRate(2, 1, 100);
        x.change(1, 2, 1, 1);
        due("above what is left of the limit", -1, () -> x.needs(0, 1));
        x.setLimit(1, 51);
        due("at what is left of the limit", 50, () -> x.needs(0, 1));
        MoneyBooth poor = Booths.evenBooth();
        poor.setRate(0, 1, 0);
        poor.change(0, 2, 1, 990);
        poor.order(0, 0, 1, 20, 11);
        due("above the stock", -1, () -> poor.needs(0, 1));
        poor.stock(1, 1);
        due("at the stock", 55, () -> poor.needs(0, 1));
        // 99999 is asked for 30003: the least rate gives 99999 or more than that by a step of 300
        MoneyBooth steps = Booths.withCustomers(1);
        steps.earn(0, 0, 30003);
        steps.stock(1, 99999);
        steps.setLimit(1, 99999);
        steps.order(0, 0, 1, 30003, 99999);
        due("334 gives 100210, above the limit", -1, () -> steps.needs(0, 1));
        steps.cancel(0);
        steps.order(0, 0, 1, 30003, 99909);
        due("333 gives 99909", 333, () -> steps.needs(0, 1));
        steps.cancel(0);
        steps.order(0, 0, 1, 100, 9999);
        due("the highest rate", 9999, () -> steps.needs(0, 1));
        steps.cancel(0);
        steps.order(0, 0, 1, 99, 9900);
        due("one above the highest rate", -1, () -> steps.needs(0, 1));
        steps.cancel(0);
        steps.setSpread(3);
        steps.order(0, 0, 1, 1, 54);
        due("5567 gives 53.9999", 5568, () -> steps.needs(0, 1));
    }

    private static void mean() {
        MoneyBooth x = new MoneyBooth();
        CHECK.holds("mean(0) without customers is 0", x.mean(0) == 0.0);
        x.come();
        CHECK.holds("mean(0) of nothing is 0", x.mean(0) == 0.0);
        x.earn(0, 0, 7);
        CHECK.holds("mean(0) of one customer is 7", x.mean(0) == 7.0);
        x.come();
        CHECK.holds("mean(0) is 3.5", x.mean(0) == 3.5);
        x.come();
        x.earn(2, 0, 1);
        x.earn(1, 0, 2);
        CHECK.holds("mean(0) is 10 / 3", x.mean(0) == 10.0 / 3.0);
        CHECK.holds("mean(1) is 0", x.mean(1) == 0.0);
        for (int out : OUTSIDE) {
            CHECK.refused(x, "mean(" + out + ")", NO_SUCH, () -> (long) x.mean(out));
        }
    }

    private static void digest() {
        MoneyBooth x = new MoneyBooth();
        due("new: digest()", Booths.reckonedDigest(x), () -> x.digest());
        for (int i = 0; i < 3; i++) {
            x.come();
            for (int money = 0; money < 5; money++) {
                x.earn(i, money, 99999 - 7 * i - money);
            }
        }
        for (int cell = 0; cell < 25; cell++) {
            if (cell / 5 != cell % 5) {
                x.setRate(cell / 5, cell % 5, 90 + cell);
            }
        }
        x.setSpread(2);
        x.setLimit(3, 8888);
        x.change(1, 0, 3, 123);
        x.order(2, 4, 1, 5, 4);
        x.order(1, 3, 0, 99999, 77);
        x.order(0, 1, 2, 6, 50);
        x.next();
        x.change(2, 3, 0, 45);
        due("in use: digest()", Booths.reckonedDigest(x), () -> x.digest());
        dueCounts("in use", x, 1, 2, 3, 2, 20, 3, 1);
        long before = x.digest();
        x.would(0, 1, 5);
        x.way(0, 1, 5);
        x.ring(0, 5);
        x.needs(3, 0);
        x.mean(2);
        due("looking changes nothing", before, () -> x.digest());
    }
}
