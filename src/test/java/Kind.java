import java.util.function.Supplier;

/** The calls of the document's face, with what each of their arguments is. */
enum Kind {
    SET_RATE(Part.MONEY, Part.MONEY, Part.RATE),
    SET_SPREAD(Part.SPREAD),
    SET_LIMIT(Part.MONEY, Part.LIMIT),
    STOCK(Part.MONEY, Part.AMOUNT),
    NEXT(),
    COME(),
    EARN(Part.CUSTOMER, Part.MONEY, Part.AMOUNT),
    CHANGE(Part.CUSTOMER, Part.MONEY, Part.MONEY, Part.AMOUNT),
    ORDER(Part.CUSTOMER, Part.MONEY, Part.MONEY, Part.AMOUNT, Part.ASKS),
    CANCEL(Part.PLACE),
    HAS(Part.CUSTOMER, Part.MONEY),
    TOLD(Part.MONEY, Part.WHAT),
    ABOUT(Part.PLACE, Part.WHAT),
    COUNT(Part.WHAT),
    WOULD(Part.MONEY, Part.MONEY, Part.AMOUNT),
    WAY(Part.MONEY, Part.MONEY, Part.AMOUNT),
    RING(Part.MONEY, Part.AMOUNT),
    NEEDS(Part.MONEY, Part.MONEY),
    MEAN(Part.MONEY),
    DIGEST();

    /** What an argument is. */
    enum Part { MONEY, CUSTOMER, PLACE, WHAT, RATE, SPREAD, LIMIT, AMOUNT, ASKS }

    final Part[] parts;

    Kind(Part... parts) {
        this.parts = parts;
    }

    Object call(MoneyBooth x, int... a) {
        switch (this) {
            case SET_RATE: return x.setRate(a[0], a[1], a[2]);
            case SET_SPREAD: return x.setSpread(a[0]);
            case SET_LIMIT: return x.setLimit(a[0], a[1]);
            case STOCK: return x.stock(a[0], a[1]);
            case NEXT: return x.next();
            case COME: return x.come();
            case EARN: return x.earn(a[0], a[1], a[2]);
            case CHANGE: return x.change(a[0], a[1], a[2], a[3]);
            case ORDER: return x.order(a[0], a[1], a[2], a[3], a[4]);
            case CANCEL: return x.cancel(a[0]);
            case HAS: return x.has(a[0], a[1]);
            case TOLD: return x.told(a[0], a[1]);
            case ABOUT: return x.about(a[0], a[1]);
            case COUNT: return x.count(a[0]);
            case WOULD: return x.would(a[0], a[1], a[2]);
            case WAY: return x.way(a[0], a[1], a[2]);
            case RING: return x.ring(a[0], a[1]);
            case NEEDS: return x.needs(a[0], a[1]);
            case MEAN: return x.mean(a[0]);
            default: return x.digest();
        }
    }

    /** What is answered, or the very class that is thrown: one that the machine throws is another one. */
    static String answer(Supplier<Object> call) {
        try {
            return String.valueOf(call.get());
        } catch (RuntimeException e) {
            return e.getClass().getName();
        }
    }
}
