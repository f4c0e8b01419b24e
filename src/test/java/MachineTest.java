/** Promises 1 to 9: a new object, and the calls that change the machine. */
public final class MachineTest {
    private MachineTest() {
    }

    public static void main(String[] args) {
        newObject();
        settings();
        settingsOutOfRange();
        coilsAreAdded();
        coilsOutOfRange();
        goodsAreStocked();
        coinsAreFilled();
        salesWithChange();
        salesThatAreNotPossible();
        salesOutOfRange();
        coinsThatDoNotFit();
        changeFromTheCustomersCoins();
        changeIsPromised();
        promisesUpToTheLimit();
        promisesArePaidInOrder();
        promisesArePaidBehindSales();
        looking();
        pricesRiseAndFall();
        boundsOfRaisingAndFalling();
        atTheHighestPriceItFalls();
        demandFades();
        neighborsAreFined();
        bannedCoilsFall();
        threeNeighborsAreFined();
        finesOfAllSizes();
        countFallsBackToZero();
        kindsThatDiffer();
        hoursOutOfRange();
        lastHour();
        box();
        Check.finish();
    }

    private static void newObject() {
        CoilPrices x = new CoilPrices();
        int[] values = {0, 0, 425, 0, 0, 0, 0, 0, 0, 0, 0};
        for (int what = 0; what < values.length; what++) {
            Check.due("new: value " + what, x.value(what), values[what]);
        }
        int[] settings = {20, 5, 50, 100, 10};
        for (int what = 0; what < settings.length; what++) {
            Check.due("new: setting " + what, x.setting(what), settings[what]);
        }
        tubes("new", x, 5, 5, 5, 5);
        Check.due("new: clearText", x.clearText(), 0);
        Check.due("new: favorite", x.favorite(), CoilPrices.NONE);
        Check.badState(x, "new: undo", x::undo);
        x.fill(0, 1);
        Check.due("another new object's tube", new CoilPrices().tube(0), 5);
    }

    private static void settings() {
        CoilPrices x = new CoilPrices();
        int[] first = {20, 5, 50, 100, 10};
        int[] least = {1, 0, 0, 0, 0};
        int[] most = {100, 100, 100, 1000, 100};
        for (int what = 0; what < first.length; what++) {
            Check.due("set least " + what, x.set(what, least[what]), first[what]);
            Check.due("setting least " + what, x.setting(what), least[what]);
            Check.due("set most " + what, x.set(what, most[what]), least[what]);
            Check.due("setting most " + what, x.setting(what), most[what]);
        }
        Check.due("set fine 55", x.set(4, 55), 100);
        Check.due("set the same", x.set(4, 55), 55);
        Check.due("undo of set", x.undo(), 3);
        Check.due("undo of set", x.undo(), 2);
        Check.due("setting after undo", x.setting(4), 100);
    }

    private static void settingsOutOfRange() {
        CoilPrices x = new CoilPrices();
        int[][] wrong = {
            {-1, 5}, {5, 5}, {Integer.MIN_VALUE, 5}, {Integer.MAX_VALUE, 5},
            {0, 0}, {0, 101}, {1, -1}, {1, 101}, {2, -1}, {2, 101}, {3, -1}, {3, 1001},
            {4, -5}, {4, 105}, {4, 1}, {4, 99}, {4, 4}, {0, Integer.MIN_VALUE}, {3, Integer.MAX_VALUE},
        };
        for (int[] w : wrong) {
            Check.badArgument(x, "set(" + w[0] + ", " + w[1] + ")", () -> x.set(w[0], w[1]));
        }
    }

    private static void coilsAreAdded() {
        CoilPrices x = new CoilPrices();
        for (int i = 0; i < 8; i++) {
            Check.due("addCoil", x.addCoil(i % 6, 5 + 5 * i, 500 - 5 * i), i);
        }
        Check.due("the coils", x.value(0), 8);
        for (int i = 0; i < 8; i++) {
            facts("added coil " + i, x, i, i % 6, 0, 5 + 5 * i, 5 + 5 * i, 500 - 5 * i, 0, 0, 0, 0, 0);
            Check.due("added coil's demand", x.demand(i), 0.0f);
        }
        Check.badState(x, "a ninth coil", () -> x.addCoil(0, 5, 5));
        Check.badArgument(x, "a ninth, wrong coil", () -> x.addCoil(6, 5, 5));
        x.stock(7, 3);
        x.look(7);
        x.undo();
        x.undo();
        Check.due("undo of addCoil", x.undo(), 1);
        Check.due("the coils after undo", x.value(0), 7);
        Check.due("the coil added again", x.addCoil(2, 500, 500), 7);
        facts("the coil added again", x, 7, 2, 0, 500, 500, 500, 0, 0, 0, 0, 0);
        Check.due("its demand", x.demand(7), 0.0f);
    }

    private static void coilsOutOfRange() {
        CoilPrices x = new CoilPrices();
        int[][] wrong = {
            {-1, 5, 5}, {6, 5, 5}, {0, 0, 5}, {0, -5, 5}, {0, 505, 505}, {0, 7, 10}, {0, 5, 7},
            {0, 50, 45}, {0, 50, 505}, {0, 5, 501}, {0, 6, 6}, {0, 5, Integer.MAX_VALUE},
            {0, Integer.MIN_VALUE, 5}, {Integer.MIN_VALUE, 5, 5}, {0, 5, -5}, {0, 5, 0},
        };
        for (int[] w : wrong) {
            Check.badArgument(x, "addCoil(" + w[0] + ", " + w[1] + ", " + w[2] + ")",
                    () -> x.addCoil(w[0], w[1], w[2]));
        }
    }

    private static void goodsAreStocked() {
        CoilPrices x = new CoilPrices();
        Check.badIndex(x, "stock without coils", () -> x.stock(0, 1));
        x.addCoil(1, 10, 20);
        x.addCoil(1, 10, 20);
        Check.due("stock 1", x.stock(0, 1), 1);
        Check.due("stock 19 more", x.stock(0, 19), 20);
        Check.due("stock 20", x.stock(1, 20), 20);
        Check.due("goods of coil 0", x.coil(0, 1), 20);
        Check.due("goods of all", x.value(10), 40);
        Check.badState(x, "one good too many", () -> x.stock(0, 1));
        Check.badState(x, "20 goods too many", () -> x.stock(1, 20));
        Check.badArgument(x, "stock 0 goods", () -> x.stock(0, 0));
        Check.badArgument(x, "stock 21 goods", () -> x.stock(0, 21));
        Check.badArgument(x, "stock -1 goods", () -> x.stock(0, -1));
        Check.badArgument(x, "stock the most goods", () -> x.stock(0, Integer.MAX_VALUE));
        Check.badIndex(x, "stock coil 2", () -> x.stock(2, 0));
        Check.badIndex(x, "stock coil -1", () -> x.stock(-1, 21));
        x.undo();
        Check.due("goods after undo", x.coil(1, 1), 0);
    }

    private static void coinsAreFilled() {
        CoilPrices x = new CoilPrices();
        Check.due("fill 1", x.fill(0, 1), 1);
        Check.due("fill 24", x.fill(0, 24), 24);
        Check.due("fill the full tube", x.fill(0, 30), 0);
        Check.due("fill 30 into 5", x.fill(3, 30), 25);
        tubes("filled", x, 30, 5, 5, 30);
        Check.due("the box is as it was", x.value(3), 0);
        Check.due("money", x.value(2), 30 * 5 + 5 * 10 + 5 * 20 + 30 * 50);
        Check.due("undo", x.undo(), 3);
        tubes("after undo", x, 30, 5, 5, 5);
        Check.due("undo of a filling that changed nothing", x.undo(), 2);
        tubes("after undo", x, 30, 5, 5, 5);
        Check.badIndex(x, "tube -1", () -> x.fill(-1, 0));
        Check.badIndex(x, "tube 4", () -> x.fill(4, 31));
        Check.badArgument(x, "0 coins", () -> x.fill(0, 0));
        Check.badArgument(x, "31 coins", () -> x.fill(0, 31));
        Check.badArgument(x, "-1 coins", () -> x.fill(3, -1));
    }

    private static void salesWithChange() {
        CoilPrices x = machine(30, 60);
        Check.due("change 20", x.buy(0, 0, 0, 0, 1), 20);
        tubes("change 20", x, 5, 5, 4, 6);
        facts("change 20", x, 0, 0, 19, 30, 30, 60, 0, 1, 30, 0, 0);
        Check.due("demand", x.demand(0), 1.0f);
        Check.due("no change", x.buy(0, 2, 0, 1, 0), 0);
        tubes("no change", x, 7, 5, 5, 6);
        Check.due("the most coins", x.buy(0, 9, 9, 9, 9), 735);
        tubes("the most coins", x, 15, 13, 13, 1);
        x.set(0, 1);
        x.pass(1);
        Check.due("at a higher price", x.buy(0, 0, 4, 0, 0), 5);
        facts("at a higher price", x, 0, 0, 16, 35, 30, 60, 0, 4, 125, 1, 0);
        Check.due("the sales", x.value(7), 4);
        Check.due("their prices", x.value(8), 125);
        Check.due("the goods", x.value(10), 16);
        x.undo();
        facts("after undo", x, 0, 0, 17, 35, 30, 60, 0, 3, 90, 1, 0);
        tubes("after undo", x, 15, 13, 13, 1);
        Check.due("demand after undo", x.demand(0), 1.5f);
    }

    private static void salesThatAreNotPossible() {
        CoilPrices x = new CoilPrices();
        x.addCoil(0, 30, 60);
        Check.badState(x, "buy from an empty coil", () -> x.buy(0, 0, 3, 0, 0));
        x.stock(0, 1);
        Check.badState(x, "buy for nothing", () -> x.buy(0, 0, 0, 0, 0));
        Check.badState(x, "buy for 25", () -> x.buy(0, 1, 2, 0, 0));
        Check.due("buy for 30", x.buy(0, 0, 3, 0, 0), 0);
        Check.badState(x, "buy the next one", () -> x.buy(0, 0, 3, 0, 0));
    }

    private static void salesOutOfRange() {
        CoilPrices x = machine(5, 5);
        Check.badIndex(x, "buy from coil 1", () -> x.buy(1, 10, 0, 0, 0));
        Check.badIndex(x, "buy from coil -1", () -> x.buy(-1, 0, 0, 0, 1));
        Check.badArgument(x, "10 fives", () -> x.buy(0, 10, 0, 0, 0));
        Check.badArgument(x, "10 tens", () -> x.buy(0, 0, 10, 0, 0));
        Check.badArgument(x, "10 twenties", () -> x.buy(0, 0, 0, 10, 0));
        Check.badArgument(x, "10 fifties", () -> x.buy(0, 0, 0, 0, 10));
        Check.badArgument(x, "-1 fives", () -> x.buy(0, -1, 9, 9, 9));
        Check.badArgument(x, "-1 tens", () -> x.buy(0, 9, -1, 9, 9));
        Check.badArgument(x, "-1 twenties", () -> x.buy(0, 9, 9, -1, 9));
        Check.badArgument(x, "-1 fifties", () -> x.buy(0, 9, 9, 9, -1));
        CoilPrices empty = new CoilPrices();
        empty.addCoil(0, 5, 5);
        Check.badArgument(empty, "10 fives for an empty coil", () -> empty.buy(0, 10, 0, 0, 0));
    }

    private static void coinsThatDoNotFit() {
        CoilPrices x = machine(45, 45);
        x.fill(0, 22);
        Check.due("nine fives", x.buy(0, 9, 0, 0, 0), 0);
        tubes("nine fives", x, 30, 5, 5, 5);
        Check.due("the box", x.value(3), 6 * 5);
        x.fill(1, 30);
        x.fill(2, 30);
        x.fill(3, 30);
        Check.due("nine of each", x.buy(0, 9, 9, 9, 9), 720);
        tubes("nine of each", x, 30, 30, 29, 16);
        Check.due("the box", x.value(3), 6 * 5 + 9 * 85);
        x.undo();
        Check.due("the box after undo", x.value(3), 30);
    }

    /** The change may hold coins that the customer put in. */
    private static void changeFromTheCustomersCoins() {
        CoilPrices x = machine(45, 45);
        for (int i = 0; i < 5; i++) {
            Check.due("change 5", x.buy(0, 0, 0, 0, 1), 5);
        }
        tubes("no fives", x, 0, 5, 5, 10);
        Check.due("one five back", x.buy(0, 1, 0, 0, 1), 10);
        tubes("no tens of his", x, 1, 4, 5, 11);
        Check.due("his five back", x.buy(0, 2, 0, 2, 0), 5);
        tubes("his five back", x, 2, 4, 7, 11);
        x.buy(0, 0, 0, 0, 1);
        x.buy(0, 0, 0, 0, 1);
        Check.due("his own five", x.buy(0, 1, 0, 0, 9), 410);
        tubes("his own five", x, 1, 3, 7, 14);
    }

    private static void changeIsPromised() {
        CoilPrices x = machine(45, 45);
        for (int i = 0; i < 5; i++) {
            x.buy(0, 0, 0, 0, 1);
        }
        Check.due("promised 5", x.buy(0, 0, 0, 0, 1), -15);
        Check.due("the promises", x.value(4), 1);
        Check.due("their sum", x.value(5), 5);
        Check.due("the promise", x.promise(0), 5);
        tubes("promised 5", x, 0, 5, 5, 11);
        Check.due("all of the change is promised", x.buy(0, 0, 1, 0, 1), -25);
        Check.due("their sum", x.value(5), 20);
        tubes("promised 15", x, 0, 6, 5, 12);
        Check.due("the sales", x.coil(0, 6), 7);
        Check.due("their prices", x.coil(0, 7), 7 * 45);
        Check.due("the undone promise", x.undo(), 3);
        Check.due("their sum after undo", x.value(5), 5);
        Check.due("the promises after undo", x.value(4), 1);
    }

    private static void promisesUpToTheLimit() {
        CoilPrices x = machine(45, 45);
        x.set(3, 20);
        for (int i = 0; i < 5; i++) {
            x.buy(0, 0, 0, 0, 1);
        }
        x.buy(0, 0, 0, 0, 1);
        Check.badState(x, "25 besides 5", () -> x.buy(0, 0, 0, 1, 1));
        Check.due("up to the limit", x.buy(0, 0, 1, 0, 1), -25);
        Check.due("up to the limit", x.value(5), 20);
        Check.badState(x, "beyond the limit", () -> x.buy(0, 0, 0, 0, 1));
        Check.due("no change", x.buy(0, 1, 0, 2, 0), 0);
        promises("a five came in", x, 15);
        x.set(3, 0);
        Check.badState(x, "far beyond the limit", () -> x.buy(0, 0, 0, 0, 1));
        Check.due("change that can be paid", x.buy(0, 1, 1, 2, 1), 60);
        promises("the five stayed", x);
    }

    private static void promisesArePaidInOrder() {
        CoilPrices x = fewSmallCoins();
        Check.due("promised 10", x.buy(0, 0, 0, 0, 1), -20);
        Check.due("promised 5", x.buy(1, 0, 0, 0, 1), -15);
        Check.due("promised 10", x.buy(0, 0, 0, 0, 1), -20);
        promises("three", x, 10, 5, 10);
        Check.due("one five", x.fill(0, 1), 1);
        promises("the oldest cannot be paid", x, 10, 5, 10);
        Check.due("another five", x.fill(0, 1), 1);
        promises("the oldest is paid", x, 5, 10);
        Check.due("paid so far", x.value(6), 10);
        x.undo();
        promises("the oldest is back", x, 10, 5, 10);
        Check.due("paid so far", x.value(6), 0);
        x.fill(0, 1);
        Check.due("a ten", x.fill(1, 1), 1);
        promises("the next one cannot be paid", x, 5, 10);
        Check.due("a five", x.fill(0, 1), 1);
        promises("all are paid", x);
        Check.due("paid so far", x.value(6), 25);
        tubes("all are paid", x, 0, 0, 5, 16);
        x.undo();
        promises("after undo", x, 5, 10);
        Check.due("paid so far", x.value(6), 10);
        tubes("after undo", x, 0, 1, 5, 16);
    }

    private static void promisesArePaidBehindSales() {
        CoilPrices x = fewSmallCoins();
        x.buy(0, 0, 0, 0, 1);
        x.buy(1, 0, 0, 0, 1);
        Check.due("a sale that brings one five", x.buy(1, 1, 0, 2, 0), 0);
        promises("still two", x, 10, 5);
        Check.due("the change goes first", x.buy(0, 1, 0, 2, 0), 5);
        promises("the change goes first", x, 10, 5);
        Check.due("a sale that brings a ten", x.buy(0, 0, 2, 1, 0), 0);
        promises("both are paid", x);
        Check.due("paid so far", x.value(6), 15);
        tubes("both are paid", x, 0, 1, 10, 15);
    }

    private static void looking() {
        CoilPrices x = machine(30, 60);
        Check.due("look", x.look(0), 30);
        Check.due("demand", x.demand(0), 0.5f);
        Check.due("look", x.look(0), 30);
        Check.due("demand", x.demand(0), 1.0f);
        x.set(0, 10);
        x.pass(1);
        Check.due("look at the new price", x.look(0), 35);
        Check.due("demand", x.demand(0), 1.0f);
        x.undo();
        Check.due("demand after undo", x.demand(0), 0.5f);
        Check.badIndex(x, "look at coil 1", () -> x.look(1));
        Check.badIndex(x, "look at coil -1", () -> x.look(-1));
    }

    private static void pricesRiseAndFall() {
        CoilPrices x = machine(30, 60);
        Machines.look(x, 0, 4);
        int[] prices = {35, 35, 35, 30, 30};
        float demand = 2.0f;
        for (int i = 0; i < prices.length; i++) {
            Check.due("pass", x.pass(1), 0);
            demand = demand / 2.0f;
            Check.due("the price in hour " + i, x.coil(0, 2), prices[i]);
            Check.due("the demand in hour " + i, x.demand(0), demand);
        }
        Check.due("the raises", x.coil(0, 8), 1);
        Check.due("the hour", x.value(1), 5);
        Machines.look(x, 0, 20);
        Check.due("pass 3", x.pass(3), 0);
        Check.due("the price", x.coil(0, 2), 45);
        Check.due("the raises", x.coil(0, 8), 4);
        Check.due("the hour", x.value(1), 8);
        x.undo();
        Check.due("the hour after undo", x.value(1), 5);
        Check.due("the price after undo", x.coil(0, 2), 30);
        Check.due("the raises after undo", x.coil(0, 8), 1);
    }

    private static void boundsOfRaisingAndFalling() {
        CoilPrices x = machine(30, 500);
        x.set(2, 100);
        Machines.look(x, 0, 3);
        x.set(0, 16);
        x.pass(1);
        Check.due("15 is less than raising", x.coil(0, 2), 30);
        x.set(0, 15);
        x.pass(1);
        Check.due("15 is raising", x.coil(0, 2), 35);
        x.set(0, 100);
        x.set(1, 15);
        x.pass(1);
        Check.due("15 is falling", x.coil(0, 2), 35);
        x.set(1, 16);
        x.pass(1);
        Check.due("15 is less than falling", x.coil(0, 2), 30);
        x.pass(1);
        Check.due("not below the lowest price", x.coil(0, 2), 30);
        x.set(0, 1);
        x.pass(48);
        Check.due("a long rise", x.coil(0, 2), 30 + 48 * 5);
        x.set(1, 0);
        x.pass(48);
        Check.due("not above the highest price", x.coil(0, 2), 500);
    }

    private static void atTheHighestPriceItFalls() {
        CoilPrices x = machine(30, 35);
        x.set(0, 1);
        x.set(1, 100);
        x.set(2, 100);
        x.look(0);
        int[] prices = {35, 30, 35, 30};
        for (int price : prices) {
            x.pass(1);
            Check.due("the price up and down", x.coil(0, 2), price);
        }
        Check.due("the raises", x.coil(0, 8), 2);
        x.set(1, 5);
        x.pass(4);
        Check.due("it stays at the highest price", x.coil(0, 2), 35);
        Check.due("the raises", x.coil(0, 8), 3);
    }

    private static void demandFades() {
        for (int fading = 0; fading <= 100; fading++) {
            CoilPrices x = machine(30, 60);
            x.set(2, fading);
            Machines.look(x, 0, 3);
            float demand = 1.5f;
            for (int hour = 0; hour < 4; hour++) {
                x.pass(1);
                demand = demand * (float) fading / 100.0f;
                Check.due("the demand at fading " + fading, x.demand(0), demand);
            }
        }
    }

    private static void neighborsAreFined() {
        CoilPrices x = lovedCoils(30, 60, 1, 1);
        Check.due("the first hour", x.pass(1), 0);
        Check.due("the count", x.coil(0, 9), 1);
        Check.due("the count of the last one", x.coil(1, 9), 0);
        Check.due("the second hour", x.pass(1), 1);
        facts("fined", x, 0, 1, 0, 30, 30, 60, 3, 0, 0, 2, 0);
        facts("fined", x, 1, 1, 0, 30, 30, 60, 3, 0, 0, 2, 0);
        Check.due("the fines", x.value(9), 1);
        int[] bans = {2, 1, 0, 0, 3};
        int[] prices = {30, 30, 30, 35, 30};
        for (int i = 0; i < bans.length; i++) {
            x.pass(1);
            Check.due("the ban", x.coil(1, 5), bans[i]);
            Check.due("the price", x.coil(0, 2), prices[i]);
        }
        Check.due("the fines", x.value(9), 2);
        x.undo();
        Check.due("the fines after undo", x.value(9), 1);
        Check.due("the ban after undo", x.coil(0, 5), 0);
        Check.due("the count after undo", x.coil(0, 9), 1);
        Check.due("11 hours", x.pass(11), 3);
    }

    private static void bannedCoilsFall() {
        CoilPrices x = lovedCoils(30, 60, 1, 1);
        x.set(4, 0);
        x.set(1, 51);
        Check.due("two hours", x.pass(2), 1);
        Check.due("the price", x.coil(0, 2), 40);
        Check.due("a hour with a ban", x.pass(1), 0);
        Check.due("the price", x.coil(0, 2), 35);
        Check.due("the ban", x.coil(0, 5), 2);
        x.undo();
        x.set(1, 50);
        Check.due("a hour with a ban", x.pass(1), 0);
        Check.due("the price", x.coil(0, 2), 40);
    }

    private static void threeNeighborsAreFined() {
        CoilPrices x = lovedCoils(30, 60, 2, 2, 2);
        Check.due("the first hour", x.pass(1), 0);
        Check.due("the count of 0 and 1", x.coil(0, 9), 1);
        Check.due("the count of 1 and 2", x.coil(1, 9), 1);
        x.set(4, 5);
        Check.due("the second hour", x.pass(1), 2);
        Check.due("coil 0 is fined once", x.coil(0, 2), 35);
        Check.due("coil 1 is fined twice", x.coil(1, 2), 30);
        Check.due("coil 2 is fined once", x.coil(2, 2), 35);
        for (int coil = 0; coil < 3; coil++) {
            Check.due("the ban", x.coil(coil, 5), 3);
            Check.due("the count", x.coil(coil, 9), 0);
        }
        Check.due("the fines", x.value(9), 2);
    }

    private static void finesOfAllSizes() {
        int[] fines = {0, 5, 10, 15, 100};
        int[] prices = {40, 35, 30, 30, 30};
        for (int i = 0; i < fines.length; i++) {
            CoilPrices x = lovedCoils(30, 60, 0, 0);
            x.set(4, fines[i]);
            Check.due("two hours", x.pass(2), 1);
            Check.due("the price after a fine of " + fines[i], x.coil(0, 2), prices[i]);
            Check.due("the price after a fine of " + fines[i], x.coil(1, 2), prices[i]);
            Check.due("the ban", x.coil(0, 5), 3);
        }
    }

    private static void countFallsBackToZero() {
        CoilPrices x = new CoilPrices();
        x.set(2, 100);
        x.addCoil(1, 30, 60);
        x.addCoil(1, 30, 35);
        Machines.look(x, 0, 10);
        Machines.look(x, 1, 10);
        Check.due("both rise", x.pass(1), 0);
        Check.due("the count", x.coil(0, 9), 1);
        Check.due("one rises", x.pass(1), 0);
        Check.due("the count", x.coil(0, 9), 0);
        Check.due("one rises", x.pass(1), 0);
        Check.due("the price", x.coil(0, 2), 45);
        Check.due("the ban", x.coil(0, 5), 0);
    }

    private static void kindsThatDiffer() {
        CoilPrices x = lovedCoils(30, 60, 1, 2, 1);
        Check.due("three hours", x.pass(3), 0);
        for (int coil = 0; coil < 3; coil++) {
            Check.due("the price", x.coil(coil, 2), 45);
            Check.due("the count", x.coil(coil, 9), 0);
        }
        CoilPrices y = lovedCoils(30, 60, 1, 2, 2, 3);
        Check.due("two hours", y.pass(2), 1);
        int[] bans = {0, 3, 3, 0};
        for (int coil = 0; coil < 4; coil++) {
            Check.due("the ban", y.coil(coil, 5), bans[coil]);
        }
    }

    private static void hoursOutOfRange() {
        CoilPrices x = machine(5, 5);
        Check.badArgument(x, "0 hours", () -> x.pass(0));
        Check.badArgument(x, "-1 hours", () -> x.pass(-1));
        Check.badArgument(x, "49 hours", () -> x.pass(49));
        Check.badArgument(x, "the most hours", () -> x.pass(Integer.MAX_VALUE));
        Check.due("48 hours", x.pass(48), 0);
        Check.due("the hour", x.value(1), 48);
    }

    private static void lastHour() {
        CoilPrices x = new CoilPrices();
        x.addCoil(0, 5, 500);
        for (int i = 0; i < 100; i++) {
            x.append("h48;".charAt(i % 4));
        }
        for (int i = 0; i < 83; i++) {
            Check.due("25 times 48 hours", x.carryOut(), 25);
        }
        Check.due("the hour", x.value(1), 99600);
        Check.due("8 times 48 hours", x.carryOut(), 8);
        Check.due("the hour", x.value(1), 99984);
        Check.badState(x, "pass(17)", () -> x.pass(17));
        Check.badArgument(x, "pass(49)", () -> x.pass(49));
        Machines.look(x, 0, 100);
        Check.due("the price beyond the last hour", x.priceIn(0, 48), 5 + 4 * 5 - 4 * 5);
        Check.due("pass(16)", x.pass(16), 0);
        Check.due("the hour", x.value(1), 100000);
        Check.badState(x, "pass(1)", () -> x.pass(1));
        Check.badArgument(x, "pass(0)", () -> x.pass(0));
        Check.due("no order", x.carryOut(), 0);
        Check.due("the hour", x.value(1), 100000);
    }

    private static void box() {
        CoilPrices x = machine(45, 45);
        Check.due("an empty box", x.emptyBox(), 0);
        x.fill(1, 24);
        Check.due("a sale", x.buy(0, 0, 5, 0, 0), 5);
        Check.due("the box", x.value(3), 40);
        Check.due("emptyBox", x.emptyBox(), 40);
        Check.due("the box then", x.value(3), 0);
        tubes("the tubes", x, 4, 30, 5, 5);
        Check.due("undo", x.undo(), 3);
        Check.due("the box after undo", x.value(3), 40);
    }

    /** A machine with one coil of kind 0 and 20 goods in it. */
    private static CoilPrices machine(int lowest, int highest) {
        CoilPrices x = new CoilPrices();
        x.addCoil(0, lowest, highest);
        x.stock(0, 20);
        return x;
    }

    /** Coils for 40 and for 45 cents; the tubes hold no coins of 5 and 10 and some of 20 and 50. */
    private static CoilPrices fewSmallCoins() {
        CoilPrices x = machine(40, 40);
        x.addCoil(1, 45, 45);
        x.stock(1, 20);
        for (int i = 0; i < 7; i++) {
            Check.due("change 10", x.buy(0, 0, 0, 0, 1), 10);
        }
        Check.due("change 5", x.buy(1, 0, 0, 0, 1), 5);
        tubes("few small coins", x, 0, 0, 5, 13);
        return x;
    }

    /** Coils of these kinds, all with a demand of 5 that does not fade. */
    private static CoilPrices lovedCoils(int lowest, int highest, int... kinds) {
        CoilPrices x = new CoilPrices();
        x.set(2, 100);
        for (int i = 0; i < kinds.length; i++) {
            x.addCoil(kinds[i], lowest, highest);
            Machines.look(x, i, 10);
        }
        return x;
    }

    private static void tubes(String when, CoilPrices x, int... coins) {
        for (int tube = 0; tube < coins.length; tube++) {
            Check.due(when + ": tube(" + tube + ")", x.tube(tube), coins[tube]);
        }
    }

    private static void facts(String when, CoilPrices x, int coil, int... facts) {
        for (int what = 0; what < facts.length; what++) {
            Check.due(when + ": coil(" + coil + ", " + what + ")", x.coil(coil, what), facts[what]);
        }
    }

    private static void promises(String when, CoilPrices x, int... amounts) {
        int sum = 0;
        Check.due(when + ": the promises", x.value(4), amounts.length);
        for (int i = 0; i < amounts.length && i < x.value(4); i++) {
            Check.due(when + ": promise(" + i + ")", x.promise(i), amounts[i]);
            sum += amounts[i];
        }
        Check.due(when + ": the sum of the promises", x.value(5), sum);
    }
}
