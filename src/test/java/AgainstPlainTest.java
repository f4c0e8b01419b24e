import java.util.function.LongSupplier;

/** Promises 1 to 26: long runs of calls, whose answers must be those of PlainMachine. */
public final class AgainstPlainTest {
    private static final int RUNS = 1500;
    private static final int CALLS = 512;
    private static final String[] PIECES = {
        "s", "b", "f", "h", "x", ";", ",", "0", "1", "9", "48", "20", "30", "00", "007", " ", "\u0000",
    };

    private long seed;
    private CoilPrices x;
    private PlainMachine plain;
    private String planned;

    private AgainstPlainTest(int run) {
        seed = run * 7919L + 17L;
    }

    public static void main(String[] args) {
        for (int run = 0; run < RUNS; run++) {
            if (!new AgainstPlainTest(run).agrees(run)) {
                break;
            }
        }
        Check.finish();
    }

    /** The next number of a row that is the same each time, 0 to bound - 1. */
    private int next(int bound) {
        seed = seed * 6364136223846793005L + 1442695040888963407L;
        return (int) ((seed >>> 33) % bound);
    }

    /** Mostly low to high, now and then a little beyond. */
    private int about(int low, int high) {
        return next(40) == 0 ? (next(2) == 0 ? low - 1 - next(2) : high + 1 + next(2))
                : low + next(high - low + 1);
    }

    private boolean agrees(int run) {
        x = new CoilPrices();
        plain = new PlainMachine();
        planned = "";
        StringBuilder story = new StringBuilder();
        boolean timid = run % 3 == 0;
        for (int i = 0; i < CALLS; i++) {
            String wrong = step(timid, story);
            long digest = x.digest();
            if (wrong == null && digest != plain.digest()) {
                wrong = "digest() answered " + digest + ", due is " + plain.digest();
            }
            if (wrong != null) {
                Check.complain("run " + run + ":" + story + "\n" + wrong);
                return false;
            }
        }
        return true;
    }

    private String step(boolean timid, StringBuilder story) {
        if (!planned.isEmpty()) {
            int value = planned.charAt(0);
            planned = planned.substring(1);
            return same(story, "append(" + value + ")", () -> x.append(value), () -> plain.append(value));
        }
        int kind = next(100);
        if (kind < 40) {
            return sale(timid, story);
        }
        if (kind < 62) {
            return otherChange(story);
        }
        return kind < 80 ? question(story) : kind < 90 ? valueOf(story) : text(story);
    }

    private String sale(boolean timid, StringBuilder story) {
        int coil = about(0, Math.max(0, x.value(0) - 1));
        int most = timid ? 1 : 9;
        int a = about(0, next(3) == 0 ? most : 0);
        int b = about(0, next(2) == 0 ? most : 0);
        int c = about(0, most);
        int d = about(0, next(2) == 0 ? most : 2);
        String call = "buy(" + coil + "," + a + "," + b + "," + c + "," + d + ")";
        return same(story, call, () -> x.buy(coil, a, b, c, d),
                () -> plain.buy(coil, new int[] {a, b, c, d}));
    }

    private String otherChange(StringBuilder story) {
        int coil = about(0, Math.max(0, x.value(0) - 1));
        switch (next(8)) {
            case 0: {
                int what = about(0, 4);
                int value = next(3) == 0 ? about(0, 100) : what == 3 ? about(0, 1000) : 5 * about(0, 20);
                return same(story, "set(" + what + "," + value + ")",
                        () -> x.set(what, value), () -> plain.set(what, value));
            }
            case 1: {
                int kind = next(3) == 0 ? about(0, 5) : 2;
                int lowest = next(30) == 0 ? about(5, 500) : 5 * about(1, next(10) == 0 ? 100 : 12);
                int highest = next(30) == 0 ? about(5, 500) : lowest + 5 * about(0, 8);
                return same(story, "addCoil(" + kind + "," + lowest + "," + highest + ")",
                        () -> x.addCoil(kind, lowest, highest), () -> plain.addCoil(kind, lowest, highest));
            }
            case 2:
            case 3: {
                int goods = about(1, 20);
                return same(story, "stock(" + coil + "," + goods + ")",
                        () -> x.stock(coil, goods), () -> plain.stock(coil, goods));
            }
            case 4: {
                int tube = about(0, 3);
                int coins = next(3) == 0 ? about(1, 30) : about(1, 3);
                return same(story, "fill(" + tube + "," + coins + ")",
                        () -> x.fill(tube, coins), () -> plain.fill(tube, coins));
            }
            case 5: {
                int hours = next(3) == 0 ? about(1, 48) : about(1, 3);
                return same(story, "pass(" + hours + ")", () -> x.pass(hours), () -> plain.pass(hours));
            }
            case 6:
                return next(4) == 0
                        ? same(story, "emptyBox()", x::emptyBox, plain::emptyBox)
                        : same(story, "undo()", x::undo, plain::undo);
            default:
                return same(story, "look(" + coil + ")", () -> x.look(coil), () -> plain.look(coil));
        }
    }

    private String question(StringBuilder story) {
        int coil = about(0, Math.max(0, x.value(0) - 1));
        int amount = next(5) == 0 ? about(0, 2000) : 5 * next(next(2) == 0 ? 40 : 401);
        switch (next(6)) {
            case 0: {
                int tube = about(0, 3);
                return same(story, "change(" + amount + "," + tube + ")",
                        () -> x.change(amount, tube), () -> plain.change(amount, tube));
            }
            case 1:
                return same(story, "mostPayable(" + amount + ")",
                        () -> x.mostPayable(amount), () -> plain.mostPayable(amount));
            case 2:
                return same(story, "coinFor(" + amount + ")",
                        () -> x.coinFor(amount), () -> plain.coinFor(amount));
            case 3: {
                int hours = about(0, next(2) == 0 ? 48 : 5);
                return same(story, "priceIn(" + coil + "," + hours + ")",
                        () -> x.priceIn(coil, hours), () -> plain.priceIn(coil, hours));
            }
            case 4: {
                int tens = about(0, 9);
                int fifties = about(0, 2);
                return same(story, "salesInARow(" + coil + "," + tens + "," + fifties + ")",
                        () -> x.salesInARow(coil, tens, fifties),
                        () -> plain.salesInARow(coil, tens, fifties));
            }
            default:
                return same(story, "favorite()", x::favorite, plain::favorite);
        }
    }

    private String valueOf(StringBuilder story) {
        int coil = about(0, Math.max(0, x.value(0) - 1));
        int what = about(0, 9);
        switch (next(6)) {
            case 0:
                return same(story, "coil(" + coil + "," + what + ")",
                        () -> x.coil(coil, what), () -> plain.coil(coil, what));
            case 1:
                return same(story, "demand(" + coil + ")",
                        () -> Float.floatToIntBits(x.demand(coil)),
                        () -> Float.floatToIntBits(plain.demand(coil)));
            case 2:
                return same(story, "tube(" + what + ")", () -> x.tube(what), () -> plain.tube(what));
            case 3:
                return same(story, "value(" + what + ")", () -> x.value(what), () -> plain.value(what));
            case 4:
                return same(story, "setting(" + what + ")",
                        () -> x.setting(what), () -> plain.setting(what));
            default:
                return same(story, "promise(" + what + ")",
                        () -> x.promise(what), () -> plain.promise(what));
        }
    }

    private String text(StringBuilder story) {
        int kind = next(10);
        if (kind < 4) {
            return same(story, "carryOut()", x::carryOut, plain::carryOut);
        }
        if (kind < 6) {
            return same(story, "clearText()", x::clearText, plain::clearText);
        }
        if (kind == 6) {
            int value = about(0, 127);
            return same(story, "append(" + value + ")", () -> x.append(value), () -> plain.append(value));
        }
        StringBuilder orders = new StringBuilder();
        for (int i = next(5); i >= 0; i--) {
            orders.append(order());
        }
        if (next(3) == 0) {
            int at = next(orders.length());
            orders.replace(at, at + next(2), PIECES[next(PIECES.length)]);
        }
        if (next(6) == 0) {
            orders.setLength(1 + next(orders.length()));
        }
        planned = orders.toString();
        return null;
    }

    private String order() {
        int place = next(Math.max(1, Math.min(8, x.value(0) + next(2))));
        switch (next(5)) {
            case 0:
                return "s" + place + "x" + numeral(next(4) == 0 ? 21 : 4) + ";";
            case 1:
                return "f" + next(4) + "x" + numeral(31) + ";";
            case 2:
                return "h" + numeral(next(2) == 0 ? 49 : 4) + ";";
            default:
                return "b" + place + "," + next(2) + "," + next(3) + "," + next(4) + "," + next(3) + ";";
        }
    }

    private String numeral(int most) {
        int number = next(40) == 0 ? 0 : 1 + next(most);
        return number < 10 && next(3) == 0 ? "0" + number : "" + number;
    }

    /** Null if both answer the same; otherwise what is wrong. */
    private static String same(StringBuilder story, String call, LongSupplier mine, LongSupplier other) {
        story.append(' ').append(call);
        String got = answer(mine);
        String due = answer(other);
        return got.equals(due) ? null : call + " answered " + got + ", due is " + due;
    }

    private static String answer(LongSupplier call) {
        try {
            return "" + call.getAsLong();
        } catch (PlainMachine.Refusal refusal) {
            return refusal.due.getName();
        } catch (RuntimeException e) {
            return e.getClass().getName();
        }
    }
}
