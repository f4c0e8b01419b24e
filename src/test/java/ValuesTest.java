/** Promises 10 to 15: the calls that tell values. */
public final class ValuesTest {
    private static final int[] NO_INDEX = {-1, Integer.MIN_VALUE, Integer.MAX_VALUE};

    private ValuesTest() {
    }

    public static void main(String[] args) {
        coil();
        demand();
        tube();
        value();
        setting();
        promise();
        Check.finish();
    }

    private static void coil() {
        CoilPrices x = usedMachine();
        int[][] due = {
            {3, 7, 50, 40, 90, 0, 1, 50, 2, 1},
            {3, 0, 10, 5, 25, 0, 0, 0, 1, 0},
            {5, 19, 100, 100, 100, 0, 1, 100, 0, 0},
        };
        for (int coil = 0; coil < due.length; coil++) {
            for (int what = 0; what < due[coil].length; what++) {
                Check.due("coil(" + coil + ", " + what + ")", x.coil(coil, what), due[coil][what]);
            }
        }
        Check.badIndex(x, "coil(3, 0)", () -> x.coil(3, 0));
        Check.badIndex(x, "coil(3, 10)", () -> x.coil(3, 10));
        Check.badArgument(x, "coil(0, -1)", () -> x.coil(0, -1));
        Check.badArgument(x, "coil(2, 10)", () -> x.coil(2, 10));
        for (int no : NO_INDEX) {
            Check.badIndex(x, "coil(" + no + ", 0)", () -> x.coil(no, 0));
            Check.badArgument(x, "coil(0, " + no + ")", () -> x.coil(0, no));
        }
        CoilPrices empty = new CoilPrices();
        Check.badIndex(empty, "no coil(0, 0)", () -> empty.coil(0, 0));
    }

    private static void demand() {
        CoilPrices x = usedMachine();
        Check.due("demand(0)", x.demand(0), 2.5f * 50.0f / 100.0f + 1.0f);
        Check.due("demand(1)", x.demand(1), 3.0f * 50.0f / 100.0f);
        Check.due("demand(2)", x.demand(2), 1.0f);
        Check.badIndex(x, "demand(3)", () -> x.demand(3));
        for (int no : NO_INDEX) {
            Check.badIndex(x, "demand(" + no + ")", () -> x.demand(no));
        }
    }

    private static void tube() {
        CoilPrices x = usedMachine();
        int[] coins = {5, 30, 6, 7};
        for (int tube = 0; tube < coins.length; tube++) {
            Check.due("tube(" + tube + ")", x.tube(tube), coins[tube]);
        }
        Check.badIndex(x, "tube(4)", () -> x.tube(4));
        for (int no : NO_INDEX) {
            Check.badIndex(x, "tube(" + no + ")", () -> x.tube(no));
        }
    }

    private static void value() {
        CoilPrices x = usedMachine();
        int[] due = {3, 2, 5 * 5 + 30 * 10 + 6 * 20 + 7 * 50, 10, 0, 0, 0, 2, 150, 0, 26};
        for (int what = 0; what < due.length; what++) {
            Check.due("value(" + what + ")", x.value(what), due[what]);
        }
        Check.badArgument(x, "value(11)", () -> x.value(11));
        for (int no : NO_INDEX) {
            Check.badArgument(x, "value(" + no + ")", () -> x.value(no));
        }
    }

    private static void setting() {
        CoilPrices x = new CoilPrices();
        int[] values = {7, 8, 9, 10, 15};
        for (int what = 0; what < values.length; what++) {
            x.set(what, values[what]);
        }
        for (int what = 0; what < values.length; what++) {
            Check.due("setting(" + what + ")", x.setting(what), values[what]);
        }
        Check.badArgument(x, "setting(5)", () -> x.setting(5));
        for (int no : NO_INDEX) {
            Check.badArgument(x, "setting(" + no + ")", () -> x.setting(no));
        }
    }

    private static void promise() {
        CoilPrices x = new CoilPrices();
        x.addCoil(0, 45, 45);
        x.stock(0, 20);
        Check.badIndex(x, "no promise(0)", () -> x.promise(0));
        for (int i = 0; i < 5; i++) {
            x.buy(0, 0, 0, 0, 1);
        }
        x.buy(0, 0, 1, 0, 1);
        x.buy(0, 0, 0, 0, 1);
        x.buy(0, 0, 0, 1, 1);
        Check.due("promise(0)", x.promise(0), 15);
        Check.due("promise(1)", x.promise(1), 5);
        Check.due("promise(2)", x.promise(2), 25);
        Check.due("value(4)", x.value(4), 3);
        Check.due("value(5)", x.value(5), 45);
        Check.badIndex(x, "promise(3)", () -> x.promise(3));
        for (int no : NO_INDEX) {
            Check.badIndex(x, "promise(" + no + ")", () -> x.promise(no));
        }
        x.fill(0, 1);
        Check.due("promise(0)", x.promise(0), 5);
        Check.due("value(6)", x.value(6), 15);
        Check.badIndex(x, "promise(2)", () -> x.promise(2));
        manyPromises();
    }

    /** As many promises as there can be. */
    private static void manyPromises() {
        CoilPrices x = new CoilPrices();
        x.set(3, 1000);
        x.addCoil(0, 45, 45);
        for (int i = 0; i < 205; i++) {
            if (x.coil(0, 1) == 0) {
                x.stock(0, 20);
            }
            Check.due("a sale", x.buy(0, 0, 0, 0, 1), i < 5 ? 5 : -15);
        }
        Check.due("value(4)", x.value(4), 200);
        Check.due("value(5)", x.value(5), 1000);
        Check.due("promise(199)", x.promise(199), 5);
        Check.badIndex(x, "promise(200)", () -> x.promise(200));
        x.stock(0, 1);
        Check.badState(x, "a promise too many", () -> x.buy(0, 0, 0, 0, 1));
        Check.due("fill", x.fill(0, 30), 30);
        Check.due("value(4)", x.value(4), 170);
        Check.due("value(6)", x.value(6), 150);
        Check.due("tube(0)", x.tube(0), 0);
    }

    /** Three coils after two hours and two sales, with something in the box. */
    private static CoilPrices usedMachine() {
        CoilPrices x = new CoilPrices();
        x.addCoil(3, 40, 90);
        x.stock(0, 8);
        x.addCoil(3, 5, 25);
        x.addCoil(5, 100, 100);
        x.stock(2, 20);
        x.fill(1, 23);
        for (int i = 0; i < 4; i++) {
            x.look(0);
        }
        x.pass(1);
        for (int i = 0; i < 3; i++) {
            x.look(0);
        }
        for (int i = 0; i < 6; i++) {
            x.look(1);
        }
        x.set(0, 15);
        x.pass(1);
        x.set(0, 20);
        x.buy(0, 0, 2, 1, 1);
        x.buy(2, 0, 1, 2, 1);
        return x;
    }
}
