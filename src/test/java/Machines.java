import java.util.ArrayList;
import java.util.Arrays;
import java.util.List;

/** Machines that several tests start from, and pictures of all that a machine tells. */
final class Machines {
    private static final int MOST_COINS = 30;

    private Machines() {
    }

    /** One coil of kind 0 with 20 goods. */
    static CoilPrices withCoil(int lowest, int highest) {
        CoilPrices x = new CoilPrices();
        x.addCoil(0, lowest, highest);
        x.stock(0, 20);
        return x;
    }

    /** One coil for 45 cents with 15 goods; the tubes hold 0, 5, 5 and 10 coins. */
    static CoilPrices withoutFives() {
        CoilPrices x = withCoil(45, 45);
        for (int i = 0; i < 5; i++) {
            x.buy(0, 0, 0, 0, 1);
        }
        return x;
    }

    /** Coils for 40 and for 45 cents with goods; the tubes hold 0, 0, 5 and 15 coins. */
    static CoilPrices withoutSmallCoins() {
        CoilPrices x = withCoil(40, 40);
        x.addCoil(1, 45, 45);
        x.stock(1, 20);
        for (int i = 0; i < 5; i++) {
            x.buy(0, 0, 0, 0, 1);
            x.buy(1, 0, 0, 0, 1);
        }
        return x;
    }

    /** Coils of these kinds for 30 to 60 cents, with a demand of 5 that does not fade. */
    static CoilPrices loved(int... kinds) {
        CoilPrices x = new CoilPrices();
        x.set(2, 100);
        for (int coil = 0; coil < kinds.length; coil++) {
            x.addCoil(kinds[coil], 30, 60);
            look(x, coil, 10);
        }
        return x;
    }

    /** All tubes are full. */
    static CoilPrices withFullTubes() {
        CoilPrices x = new CoilPrices();
        for (int tube = 0; tube < 4; tube++) {
            x.fill(tube, MOST_COINS);
        }
        return x;
    }

    /** Three coils, goods, two promises, money in the box, a ban ahead, four saved states, a text. */
    static CoilPrices used() {
        CoilPrices x = new CoilPrices();
        x.addCoil(1, 45, 90);
        x.addCoil(1, 45, 60);
        x.addCoil(3, 5, 500);
        x.stock(0, 20);
        x.stock(2, 7);
        x.fill(1, MOST_COINS);
        for (int i = 0; i < 6; i++) {
            x.buy(0, 0, 0, 0, 1);
        }
        x.buy(0, 0, 9, 0, 0);
        look(x, 1, 8);
        x.pass(1);
        write(x, "s1x1;f1x1;h1;");
        return x;
    }

    /** The used machine at this hour, 1 or later. */
    static CoilPrices atHour(int hour) {
        CoilPrices x = used();
        x.clearText();
        write(x, "h48;".repeat(25));
        while (x.value(1) + 25 * 48 <= hour) {
            x.carryOut();
        }
        while (x.value(1) < hour) {
            x.pass(Math.min(48, hour - x.value(1)));
        }
        x.clearText();
        return x;
    }

    static void look(CoilPrices x, int coil, int times) {
        for (int i = 0; i < times; i++) {
            x.look(coil);
        }
    }

    static void write(CoilPrices x, String text) {
        for (int i = 0; i < text.length(); i++) {
            x.append(text.charAt(i));
        }
    }

    /** All that the calls for values tell. */
    static List<Long> picture(CoilPrices x) {
        List<Long> picture = new ArrayList<>();
        for (int what = 0; what <= 10; what++) {
            picture.add((long) x.value(what));
        }
        for (int what = 0; what <= 4; what++) {
            picture.add((long) x.setting(what));
        }
        for (int tube = 0; tube <= 3; tube++) {
            picture.add((long) x.tube(tube));
        }
        for (int coil = 0; coil < x.value(0); coil++) {
            for (int what = 0; what <= 9; what++) {
                picture.add((long) x.coil(coil, what));
            }
            picture.add((long) Float.floatToIntBits(x.demand(coil)));
        }
        for (int index = 0; index < x.value(4); index++) {
            picture.add((long) x.promise(index));
        }
        return picture;
    }

    /** What is told of two machines that must be the same, their saved states and texts too. */
    static void mustBeSame(String when, CoilPrices x, CoilPrices twin) {
        Check.due(when + ": digest()", x.digest(), twin.digest());
        mustLookSame(when, x, twin);
        CoilPrices[] both = {x, twin};
        long[] left = new long[2];
        do {
            for (int i = 0; i < 2; i++) {
                left[i] = undone(both[i]);
            }
            Check.due(when + ": undo()", left[0], left[1]);
            mustLookSame(when + ", undone", x, twin);
        } while (left[0] > 0 && left[1] > 0);
        Check.due(when + ": carryOut()", x.carryOut(), twin.carryOut());
        mustLookSame(when + ", text carried out", x, twin);
        Check.due(when + ": clearText()", x.clearText(), twin.clearText());
    }

    /** All that the calls for values tell must be the same of both. */
    static void mustLookSame(String when, CoilPrices x, CoilPrices twin) {
        List<Long> got = picture(x);
        List<Long> due = picture(twin);
        if (!got.equals(due)) {
            Check.complain(when + ": the values are " + got + ", due are " + due);
        }
    }

    /** The answer of undo; -1 if there is no saved state. */
    private static int undone(CoilPrices x) {
        try {
            return x.undo();
        } catch (IllegalStateException none) {
            return -1;
        }
    }

    static void tubes(CoilPrices x, int... coins) {
        int[] got = {x.tube(0), x.tube(1), x.tube(2), x.tube(3)};
        if (!Arrays.equals(got, coins)) {
            Check.complain("the tubes are " + Arrays.toString(got) + ", due are " + Arrays.toString(coins));
        }
    }

    static void promises(CoilPrices x, int... amounts) {
        int[] got = new int[x.value(4)];
        int sum = 0;
        for (int i = 0; i < got.length; i++) {
            got[i] = x.promise(i);
        }
        for (int amount : amounts) {
            sum += amount;
        }
        if (!Arrays.equals(got, amounts)) {
            Check.complain("promises are " + Arrays.toString(got) + ", due are " + Arrays.toString(amounts));
        }
        Check.due("the sum of the promises", x.value(5), sum);
    }
}
