/** Promises 16 to 21: the questions that change nothing. */
public final class WhatIfTest {
    private WhatIfTest() {
    }

    public static void main(String[] args) {
        changeOfANewMachine();
        changeWithTheFewestCoins();
        changeOutOfRange();
        mostPayable();
        mostPayableOutOfRange();
        coinFor();
        coinForOutOfRange();
        priceIn();
        priceInWithFines();
        priceInOfKindsThatDiffer();
        priceInOutOfRange();
        salesInARow();
        salesInARowWithPromises();
        salesInARowOutOfRange();
        favorite();
        Check.finish();
    }

    private static void changeOfANewMachine() {
        CoilPrices x = new CoilPrices();
        way(x, 0, 0, 0, 0, 0);
        way(x, 5, 1, 0, 0, 0);
        way(x, 10, 0, 1, 0, 0);
        way(x, 15, 1, 1, 0, 0);
        way(x, 60, 0, 1, 0, 1);
        way(x, 80, 0, 1, 1, 1);
        way(x, 85, 1, 1, 1, 1);
        way(x, 40, 0, 0, 2, 0);
        way(x, 250, 0, 0, 0, 5);
        way(x, 300, 0, 1, 2, 5);
        way(x, 420, 4, 5, 5, 5);
        way(x, 425, 5, 5, 5, 5);
        noWay(x, 430, 1, 4, 7, 424, 426, 1000, 2000);
    }

    private static void changeWithTheFewestCoins() {
        CoilPrices noTens = without(0, 5, 0);
        way(noTens, 60, 2, 0, 0, 1);
        way(noTens, 80, 2, 0, 1, 1);
        way(noTens, 110, 2, 0, 0, 2);
        way(noTens, 30, 2, 0, 1, 0);
        CoilPrices noSmall = without(5, 5, 0);
        way(noSmall, 60, 0, 0, 3, 0);
        way(noSmall, 80, 0, 0, 4, 0);
        way(noSmall, 110, 0, 0, 3, 1);
        way(noSmall, 100, 0, 0, 0, 2);
        way(noSmall, 760, 0, 0, 3, 14);
        way(noSmall, 810, 0, 0, 3, 15);
        way(noSmall, 850, 0, 0, 5, 15);
        noWay(noSmall, 5, 10, 25, 30, 55, 840, 855, 860);
        CoilPrices oneFive = without(4, 5, 0);
        way(oneFive, 65, 1, 0, 3, 0);
        way(oneFive, 55, 1, 0, 0, 1);
        noWay(oneFive, 10, 15, 30, 35);
        CoilPrices oneTwenty = without(0, 0, 4);
        way(oneTwenty, 40, 0, 2, 1, 0);
        way(oneTwenty, 95, 1, 2, 1, 1);
        way(oneTwenty, 490, 0, 2, 1, 9);
        way(oneTwenty, 530, 2, 5, 1, 9);
        long before = oneTwenty.digest();
        oneTwenty.change(490, 0);
        Check.due("change changes nothing", oneTwenty.digest(), before);
    }

    private static void changeOutOfRange() {
        CoilPrices x = new CoilPrices();
        Check.badArgument(x, "change(-1, 0)", () -> x.change(-1, 0));
        Check.badArgument(x, "change(2001, 0)", () -> x.change(2001, 0));
        Check.badArgument(x, "change(-5, 4)", () -> x.change(-5, 4));
        Check.badArgument(x, "change(2005, -1)", () -> x.change(2005, -1));
        Check.badIndex(x, "change(0, 4)", () -> x.change(0, 4));
        Check.badIndex(x, "change(2000, -1)", () -> x.change(2000, -1));
        Check.badIndex(x, "change(3, 4)", () -> x.change(3, 4));
    }

    private static void mostPayable() {
        CoilPrices x = new CoilPrices();
        int[][] due = {{0, 0}, {1, 0}, {4, 0}, {5, 5}, {9, 5}, {419, 415}, {424, 420}, {425, 425},
            {426, 425}, {2000, 425}};
        for (int[] d : due) {
            Check.due("mostPayable(" + d[0] + ")", x.mostPayable(d[0]), d[1]);
        }
        CoilPrices noSmall = without(5, 5, 0);
        int[][] more = {{19, 0}, {20, 20}, {35, 20}, {39, 20}, {55, 50}, {59, 50}, {60, 60}, {69, 60},
            {839, 830}, {849, 830}, {850, 850}, {2000, 850}};
        for (int[] d : more) {
            Check.due("mostPayable(" + d[0] + ")", noSmall.mostPayable(d[0]), d[1]);
        }
        CoilPrices full = new CoilPrices();
        for (int tube = 0; tube < 4; tube++) {
            full.fill(tube, 30);
        }
        Check.due("mostPayable(2000)", full.mostPayable(2000), 2000);
        Check.due("mostPayable(1999)", full.mostPayable(1999), 1995);
    }

    private static void mostPayableOutOfRange() {
        CoilPrices x = new CoilPrices();
        Check.badArgument(x, "mostPayable(-1)", () -> x.mostPayable(-1));
        Check.badArgument(x, "mostPayable(2001)", () -> x.mostPayable(2001));
        Check.badArgument(x, "mostPayable(least)", () -> x.mostPayable(Integer.MIN_VALUE));
        Check.badArgument(x, "mostPayable(most)", () -> x.mostPayable(Integer.MAX_VALUE));
    }

    private static void coinFor() {
        CoilPrices x = new CoilPrices();
        int[][] due = {{0, 4}, {425, 4}, {430, 0}, {435, 1}, {440, 2}, {445, 2}, {475, 3},
            {470, 3}, {480, CoilPrices.NONE}, {3, CoilPrices.NONE}, {1, CoilPrices.NONE},
            {2000, CoilPrices.NONE}};
        for (int[] d : due) {
            Check.due("coinFor(" + d[0] + ")", x.coinFor(d[0]), d[1]);
        }
        CoilPrices noSmall = without(5, 5, 0);
        int[][] more = {{5, 0}, {10, 1}, {20, 4}, {30, 1}, {15, CoilPrices.NONE}, {60, 4}, {870, 2},
            {900, 3}, {860, 1}, {840, 1}, {855, 0}, {910, CoilPrices.NONE}};
        for (int[] d : more) {
            Check.due("coinFor(" + d[0] + ")", noSmall.coinFor(d[0]), d[1]);
        }
        CoilPrices full = new CoilPrices();
        full.fill(0, 25);
        Check.due("a coin beyond the full tube", full.coinFor(555), 0);
        Check.due("a full tube", full.coinFor(550), 4);
        full.fill(1, 25);
        Check.due("a coin beyond two full tubes", full.coinFor(810), 1);
    }

    private static void coinForOutOfRange() {
        CoilPrices x = new CoilPrices();
        Check.badArgument(x, "coinFor(-1)", () -> x.coinFor(-1));
        Check.badArgument(x, "coinFor(2001)", () -> x.coinFor(2001));
        Check.badArgument(x, "coinFor(least)", () -> x.coinFor(Integer.MIN_VALUE));
        Check.badArgument(x, "coinFor(most)", () -> x.coinFor(Integer.MAX_VALUE));
    }

    private static void priceIn() {
        CoilPrices x = new CoilPrices();
        x.addCoil(0, 30, 60);
        Machines.look(x, 0, 4);
        long before = x.digest();
        int[] prices = {30, 35, 35, 35, 30, 30};
        for (int hours = 0; hours < prices.length; hours++) {
            Check.due("priceIn(0, " + hours + ")", x.priceIn(0, hours), prices[hours]);
        }
        Check.due("priceIn(0, 48)", x.priceIn(0, 48), 30);
        Check.due("priceIn changes nothing", x.digest(), before);
        x.set(2, 100);
        Check.due("priceIn(0, 48)", x.priceIn(0, 48), 60);
        Check.due("priceIn(0, 4)", x.priceIn(0, 4), 50);
        Check.due("the hour", x.value(1), 0);
    }

    private static void priceInWithFines() {
        CoilPrices x = new CoilPrices();
        x.set(2, 100);
        x.addCoil(4, 30, 60);
        x.addCoil(4, 30, 60);
        Machines.look(x, 0, 10);
        Machines.look(x, 1, 10);
        int[] prices = {30, 35, 30, 30, 30, 30, 35, 30};
        for (int hours = 0; hours < prices.length; hours++) {
            Check.due("priceIn(1, " + hours + ")", x.priceIn(1, hours), prices[hours]);
        }
        Check.due("the fines", x.value(9), 0);
        x.pass(1);
        Check.due("priceIn(0, 1) behind a common raise", x.priceIn(0, 1), 30);
        x.pass(1);
        Check.due("priceIn(0, 3) with a ban", x.priceIn(0, 3), 30);
        Check.due("priceIn(0, 4) with a ban", x.priceIn(0, 4), 35);
    }

    private static void priceInOfKindsThatDiffer() {
        CoilPrices x = new CoilPrices();
        x.set(2, 100);
        x.addCoil(4, 30, 60);
        x.addCoil(5, 30, 60);
        Machines.look(x, 0, 10);
        Machines.look(x, 1, 10);
        Check.due("priceIn(0, 3)", x.priceIn(0, 3), 45);
        Check.due("priceIn(1, 3)", x.priceIn(1, 3), 45);
    }

    private static void priceInOutOfRange() {
        CoilPrices x = new CoilPrices();
        Check.badIndex(x, "priceIn without coils", () -> x.priceIn(0, 1));
        x.addCoil(0, 30, 60);
        Check.badArgument(x, "priceIn(0, -1)", () -> x.priceIn(0, -1));
        Check.badArgument(x, "priceIn(0, 49)", () -> x.priceIn(0, 49));
        Check.badIndex(x, "priceIn(1, 49)", () -> x.priceIn(1, 49));
        Check.badIndex(x, "priceIn(-1, 0)", () -> x.priceIn(-1, 0));
    }

    private static void salesInARow() {
        CoilPrices x = new CoilPrices();
        x.addCoil(0, 30, 60);
        Check.due("an empty coil", x.salesInARow(0, 3, 0), 0);
        x.stock(0, 20);
        long before = x.digest();
        Check.due("no coins", x.salesInARow(0, 0, 0), 0);
        Check.due("too few coins", x.salesInARow(0, 2, 0), 0);
        Check.due("no change", x.salesInARow(0, 3, 0), 20);
        Check.due("change of 20", x.salesInARow(0, 0, 1), 5 + 2 + 1 + 5);
        Check.due("the most coins", x.salesInARow(0, 9, 9), 20);
        Check.due("salesInARow changes nothing", x.digest(), before);
        x.set(3, 0);
        Check.due("no promises allowed", x.salesInARow(0, 0, 1), 5 + 2 + 1);
        x.buy(0, 0, 1, 1, 0);
        Check.due("one good less", x.salesInARow(0, 3, 0), 19);
    }

    private static void salesInARowWithPromises() {
        CoilPrices x = new CoilPrices();
        x.set(3, 35);
        x.addCoil(0, 45, 45);
        x.stock(0, 20);
        Check.due("five with change, seven with promises", x.salesInARow(0, 0, 1), 12);
        for (int i = 0; i < 5; i++) {
            x.buy(0, 0, 0, 0, 1);
        }
        Check.due("seven with promises", x.salesInARow(0, 0, 1), 7);
        x.buy(0, 0, 0, 0, 1);
        Check.due("six with promises", x.salesInARow(0, 0, 1), 6);
        Check.due("the promises", x.value(4), 1);
        Check.due("two with promises", x.salesInARow(0, 1, 1), 2);
    }

    private static void salesInARowOutOfRange() {
        CoilPrices x = new CoilPrices();
        Check.badIndex(x, "salesInARow without coils", () -> x.salesInARow(0, 1, 1));
        x.addCoil(0, 30, 60);
        Check.badArgument(x, "-1 tens", () -> x.salesInARow(0, -1, 0));
        Check.badArgument(x, "10 tens", () -> x.salesInARow(0, 10, 0));
        Check.badArgument(x, "-1 fifties", () -> x.salesInARow(0, 0, -1));
        Check.badArgument(x, "10 fifties", () -> x.salesInARow(0, 0, 10));
        Check.badIndex(x, "coil 1, 10 tens", () -> x.salesInARow(1, 10, 0));
        Check.badIndex(x, "coil -1", () -> x.salesInARow(-1, 0, 0));
    }

    private static void favorite() {
        CoilPrices x = new CoilPrices();
        Check.due("no coil", x.favorite(), CoilPrices.NONE);
        for (int i = 0; i < 8; i++) {
            x.addCoil(0, 5, 5);
            Check.due("no demand", x.favorite(), 0);
        }
        x.look(7);
        Check.due("the last coil", x.favorite(), 7);
        x.look(3);
        Check.due("the lower one of two", x.favorite(), 3);
        x.look(5);
        x.look(5);
        Check.due("the greatest demand", x.favorite(), 5);
        x.pass(48);
        x.look(2);
        Check.due("the newest demand", x.favorite(), 2);
    }

    /** A machine out of whose tubes so many coins were taken as change; fifties came in for them. */
    private static CoilPrices without(int... coins) {
        CoilPrices x = new CoilPrices();
        int[] worth = {5, 10, 20};
        for (int tube = 0; tube < coins.length; tube++) {
            x.addCoil(0, 50 - worth[tube], 50 - worth[tube]);
            x.stock(tube, 20);
            for (int i = 0; i < coins[tube]; i++) {
                x.buy(tube, 0, 0, 0, 1);
            }
        }
        for (int tube = 0; tube < coins.length; tube++) {
            Check.due("set-up: tube " + tube, x.tube(tube), 5 - coins[tube]);
        }
        Check.due("set-up: tube 3", x.tube(3), 5 + coins[0] + coins[1] + coins[2]);
        return x;
    }

    private static void way(CoilPrices x, int amount, int... coins) {
        for (int tube = 0; tube < 4; tube++) {
            Check.due("change(" + amount + ", " + tube + ")", x.change(amount, tube), coins[tube]);
        }
    }

    private static void noWay(CoilPrices x, int... amounts) {
        for (int amount : amounts) {
            way(x, amount, CoilPrices.NONE, CoilPrices.NONE, CoilPrices.NONE, CoilPrices.NONE);
        }
    }
}
