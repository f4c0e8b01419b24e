import java.math.BigInteger;

/** The sentences of promises 1 to 26 that name a boundary case, each with a test of its own. */
public final class BoundsOfCallsTest {
    private static final Sentences SAYS = new Sentences();
    private static final Class<?> ARGUMENT = Sentences.ARGUMENT;
    private static final Class<?> STATE = Sentences.STATE;
    private static final Class<?> INDEX = Sentences.INDEX;
    private static final int LEAST = Integer.MIN_VALUE;
    private static final int MOST = Integer.MAX_VALUE;
    private static final int NONE = CoilPrices.NONE;

    private BoundsOfCallsTest() {
    }

    public static void main(String[] args) {
        newObject();
        set();
        addCoil();
        stock();
        fill();
        buy();
        look();
        pass();
        emptyBox();
        coil();
        demand();
        tube();
        value();
        setting();
        promise();
        change();
        mostPayable();
        coinFor();
        priceIn();
        salesInARow();
        favorite();
        append();
        clearText();
        carryOut();
        undo();
        digest();
        SAYS.mustHaveTestedAllPromises();
        Check.finish();
    }

    private static CoilPrices eightCoils() {
        CoilPrices x = new CoilPrices();
        for (int i = 0; i < 8; i++) {
            x.addCoil(i % 6, 5 + 5 * i, 500);
        }
        return x;
    }

    private static CoilPrices emptyCoil() {
        CoilPrices x = new CoilPrices();
        x.addCoil(0, 5, 5);
        return x;
    }

    /** Refuses these numbers of coils on a machine without coils, with three, and with eight. */
    private static void noSuchCoil(String name, Sentences.CallWith call) {
        Sentences.refused(INDEX, CoilPrices::new, name + " without coils", call, LEAST, -1, 0, 1, MOST);
        Sentences.refused(INDEX, Machines::used, name + " with three coils", call, LEAST, -1, 3, 4, 7, 8, MOST);
        Sentences.refused(INDEX, BoundsOfCallsTest::eightCoils, name + " with eight coils", call, -1, 8, 9);
    }

    private static void newObject() {
        SAYS.test(1, "Creates a machine without coils, with 5 coins in each tube, at the hour 0.", () -> {
            CoilPrices x = new CoilPrices();
            Check.due("the coils", x.value(0), 0);
            Machines.tubes(x, 5, 5, 5, 5);
            Check.due("the hour", x.value(1), 0);
            for (int what = 3; what <= 10; what++) {
                Check.due("value " + what, x.value(what), 0);
            }
            Sentences.refused(STATE, CoilPrices::new, "undo", CoilPrices::undo);
        });
    }

    private static void set() {
        int[] least = {1, 0, 0, 0, 0};
        int[] most = {100, 100, 100, 1000, 100};
        SAYS.test(2, "- `what`: 0 to 4, as told above", () -> {
            Check.due("the least", new CoilPrices().set(0, 50), 20);
            Check.due("the greatest", new CoilPrices().set(4, 50), 10);
            Sentences.refused(ARGUMENT, Machines::used, "what", (x, what) -> x.set(what, 50), LEAST, -1, 5, MOST);
        });
        SAYS.test(2, "- `value`: a value in its range", () -> {
            for (int what = 0; what <= 4; what++) {
                CoilPrices x = new CoilPrices();
                x.set(what, least[what]);
                Check.due("the least value", x.set(what, most[what]), least[what]);
                Check.due("the greatest value", x.setting(what), most[what]);
            }
        });
        SAYS.test(2, "Returns the previous value.", () -> {
            CoilPrices x = new CoilPrices();
            Check.due("the first one", x.set(2, 100), 50);
            Check.due("the same again", x.set(2, 100), 100);
            Check.due("another", x.set(2, 0), 100);
            Check.due("none", x.set(2, 1), 0);
        });
        SAYS.test(2, "Throws `IllegalArgumentException` if what or value is out of range", () -> {
            for (int i = 0; i <= 4; i++) {
                int what = i;
                Sentences.refused(ARGUMENT, Machines::used, "value of " + what, (x, value) -> x.set(what, value),
                        LEAST, -5, least[what] - 1, most[what] + 1, most[what] + 5, MOST);
            }
            Sentences.refused(ARGUMENT, Machines::used, "a fine", (x, value) -> x.set(4, value), 1, 4, 6, 96, 99);
        });
    }

    private static void addCoil() {
        SAYS.test(3, "- `kind`: 0 to 5", () -> {
            CoilPrices x = new CoilPrices();
            Check.due("the least kind", x.addCoil(0, 5, 5), 0);
            Check.due("the greatest kind", x.addCoil(5, 5, 5), 1);
        });
        SAYS.test(3, "- `lowest`: a multiple of 5, 5 to 500", () -> {
            CoilPrices x = new CoilPrices();
            Check.due("the least", x.addCoil(0, 5, 500), 0);
            Check.due("the greatest", x.addCoil(0, 500, 500), 1);
            Check.due("its price", x.coil(1, 3), 500);
        });
        SAYS.test(3, "- `highest`: a multiple of 5, lowest to 500", () -> {
            CoilPrices x = new CoilPrices();
            Check.due("the lowest", x.addCoil(0, 35, 35), 0);
            Check.due("the greatest", x.addCoil(0, 35, 500), 1);
            Check.due("its highest price", x.coil(1, 4), 500);
        });
        SAYS.test(3, "Returns the number of the coil.", () -> {
            CoilPrices x = new CoilPrices();
            Check.due("the first", x.addCoil(0, 5, 5), 0);
            x.undo();
            Check.due("the first again", x.addCoil(0, 5, 5), 0);
            for (int i = 1; i < 8; i++) {
                Check.due("the next", x.addCoil(0, 5, 5), i);
            }
        });
        SAYS.test(3, "Adds a coil without goods. Undoable.", () -> {
            addedAgain("h4;", 1, 0);
            addedAgain("h5;", 0, 3);
        });
        SAYS.test(3, "Throws `IllegalArgumentException` if an argument is out of range", () -> {
            Sentences.refused(ARGUMENT, Machines::used, "kind", (x, v) -> x.addCoil(v, 5, 5), LEAST, -1, 6, MOST);
            Sentences.refused(ARGUMENT, Machines::used, "lowest", (x, v) -> x.addCoil(0, v, 500),
                    LEAST, -5, 0, 1, 4, 6, 499, 501, 505, MOST);
            Sentences.refused(ARGUMENT, Machines::used, "lowest and highest", (x, v) -> x.addCoil(0, v, v),
                    LEAST, -5, 0, 4, 6, 501, 505, MOST);
            Sentences.refused(ARGUMENT, Machines::used, "highest", (x, v) -> x.addCoil(0, 35, v),
                    LEAST, -5, 0, 5, 30, 34, 36, 499, 501, 505, MOST);
        });
        SAYS.test(3, "Throws `IllegalStateException` if there are 8 coils", () -> {
            Sentences.refused(STATE, BoundsOfCallsTest::eightCoils, "a ninth coil", x -> x.addCoil(0, 5, 5));
            Sentences.refused(ARGUMENT, BoundsOfCallsTest::eightCoils, "a ninth coil, and its kind",
                    x -> x.addCoil(6, 5, 5));
            Sentences.refused(ARGUMENT, BoundsOfCallsTest::eightCoils, "a ninth coil, and its lowest price",
                    x -> x.addCoil(5, 0, 5));
            Sentences.refused(ARGUMENT, BoundsOfCallsTest::eightCoils, "a ninth coil, and its highest price",
                    x -> x.addCoil(5, 10, 5));
        });
    }

    /** Adds two coils, uses them, undoes all this, and adds others in their place. */
    private static void addedAgain(String lastHours, int commonRaises, int ban) {
        CoilPrices x = new CoilPrices();
        x.set(0, 5);
        x.set(2, 100);
        Machines.write(x, "s0x20;s1x20;b0,9,9,9,9;b1,9,9,9,9;h2;s0x1;b0,9,9,9,9;s1x1;b1,9,9,9,9;" + lastHours);
        x.addCoil(1, 5, 500);
        x.addCoil(1, 5, 500);
        Check.due("orders", x.carryOut(), 10);
        Check.due("the common raises", x.coil(0, 9), commonRaises);
        Check.due("the ban", x.coil(1, 5), ban);
        x.undo();
        x.undo();
        x.undo();
        for (int coil = 0; coil < 2; coil++) {
            Check.due("added again", x.addCoil(2, 10, 15), coil);
            int[] due = {2, 0, 10, 10, 15, 0, 0, 0, 0, 0};
            for (int what = 0; what <= 9; what++) {
                Check.due("added again, coil(" + coil + ", " + what + ")", x.coil(coil, what), due[what]);
            }
            Check.due("added again, demand(" + coil + ")", x.demand(coil), 0.0f);
        }
    }

    private static void stock() {
        SAYS.test(4, "- `coil`: number of a coil", () -> {
            CoilPrices x = eightCoils();
            Check.due("the first coil", x.stock(0, 3), 3);
            Check.due("the last coil", x.stock(7, 4), 4);
            Check.due("the coil between", x.coil(3, 1), 0);
        });
        SAYS.test(4, "- `goods`: 1 to 20", () -> {
            Check.due("the least", emptyCoil().stock(0, 1), 1);
            Check.due("the greatest", emptyCoil().stock(0, 20), 20);
        });
        SAYS.test(4, "Returns its stock then.", () -> {
            CoilPrices x = emptyCoil();
            x.stock(0, 1);
            Check.due("the stock", x.stock(0, 18), 19);
            Check.due("the full stock", x.stock(0, 1), 20);
        });
        SAYS.test(4, "Throws `IndexOutOfBoundsException` if there is no such coil", () -> {
            noSuchCoil("stock", (x, coil) -> x.stock(coil, 1));
            noSuchCoil("stock no goods", (x, coil) -> x.stock(coil, 0));
            noSuchCoil("stock 21 goods", (x, coil) -> x.stock(coil, 21));
        });
        SAYS.test(4, "Throws `IllegalArgumentException` if goods is out of range", () -> {
            Sentences.refused(ARGUMENT, Machines::used, "goods", (x, v) -> x.stock(0, v), LEAST, -1, 0, 21, MOST);
            Sentences.refused(ARGUMENT, () -> Machines.withCoil(5, 5), "goods of a full coil",
                    (x, v) -> x.stock(0, v), LEAST, -1, 0, 21, MOST);
        });
        SAYS.test(4, "Throws `IllegalStateException` if the stock would be greater than 20", () -> {
            Sentences.refused(STATE, () -> Machines.withCoil(5, 5), "goods of a full coil",
                    (x, v) -> x.stock(0, v), 1, 20);
            CoilPrices x = Machines.withoutFives();
            Check.due("15 and 5", x.stock(0, 5), 20);
            Sentences.refused(STATE, Machines::withoutFives, "goods beside 15", (y, v) -> y.stock(0, v), 6, 20);
        });
    }

    private static void fill() {
        SAYS.test(5, "as far as they fit; the others are not taken. Then promises are paid.", () -> {
            CoilPrices x = new CoilPrices();
            Check.due("25 of 30", x.fill(2, 30), 25);
            Machines.tubes(x, 5, 5, 30, 5);
            Check.due("the box", x.value(3), 0);
            Check.due("none of one", x.fill(2, 1), 0);
            Machines.tubes(x, 5, 5, 30, 5);
            CoilPrices y = Machines.withoutFives();
            y.buy(0, 0, 0, 0, 1);
            Check.due("30, before one is paid out", y.fill(0, 30), 30);
            Machines.promises(y);
            Machines.tubes(y, 29, 5, 5, 11);
        });
        SAYS.test(5, "- `tube`: 0 to 3", () -> {
            CoilPrices x = new CoilPrices();
            x.fill(0, 1);
            x.fill(3, 2);
            Machines.tubes(x, 6, 5, 5, 7);
        });
        SAYS.test(5, "- `coins`: 1 to 30", () -> {
            Check.due("the least", Machines.withoutFives().fill(0, 1), 1);
            Check.due("the greatest", Machines.withoutFives().fill(0, 30), 30);
        });
        SAYS.test(5, "Returns the coins that were taken.", () -> {
            CoilPrices x = new CoilPrices();
            Check.due("all", x.fill(1, 24), 24);
            Check.due("one of two", x.fill(1, 2), 1);
            Check.due("none", x.fill(1, 2), 0);
        });
        SAYS.test(5, "Throws `IndexOutOfBoundsException` if there is no such tube (0 to 3)", () -> {
            Sentences.refused(INDEX, Machines::used, "tube", (x, v) -> x.fill(v, 1), LEAST, -1, 4, MOST);
            Sentences.refused(INDEX, Machines::used, "tube, no coins", (x, v) -> x.fill(v, 0), -1, 4);
            Sentences.refused(INDEX, Machines::used, "tube, 31 coins", (x, v) -> x.fill(v, 31), -1, 4);
        });
        SAYS.test(5, "Throws `IllegalArgumentException` if coins is out of range", () -> {
            Sentences.refused(ARGUMENT, Machines::used, "coins", (x, v) -> x.fill(0, v), LEAST, -1, 0, 31, MOST);
            Sentences.refused(ARGUMENT, Machines::withFullTubes, "coins for a full tube", (x, v) -> x.fill(3, v),
                    LEAST, -1, 0, 31, MOST);
        });
    }

    private static void buy() {
        SAYS.test(6, "- `coil`: number of a coil", () -> {
            CoilPrices x = eightCoils();
            x.stock(0, 1);
            x.stock(7, 1);
            Check.due("the first coil", x.buy(0, 1, 0, 0, 0), 0);
            Check.due("the last coil", x.buy(7, 0, 0, 2, 0), 0);
            Check.due("the sales of the first", x.coil(0, 6), 1);
            Check.due("the sales of the last", x.coil(7, 7), 40);
        });
        coinsPutIn("- `fives`: coins of 5 cents that are put in, 0 to 9", 0, 5);
        coinsPutIn("- `tens`: coins of 10 cents, 0 to 9", 1, 10);
        coinsPutIn("- `twenties`: coins of 20 cents, 0 to 9", 2, 20);
        coinsPutIn("- `fifties`: coins of 50 cents, 0 to 9", 3, 50);
        SAYS.test(6, "Returns the change that was paid; -10 minus the change if it was promised "
                + "(even if it was paid behind the sale).", () -> {
            CoilPrices x = Machines.withoutFives();
            Check.due("no change", x.buy(0, 1, 0, 2, 0), 0);
            Check.due("the least change", x.buy(0, 0, 0, 0, 1), 5);
            Check.due("the least promise", x.buy(0, 0, 0, 0, 1), -10 - 5);
            CoilPrices y = Machines.withoutFives();
            y.set(3, 1000);
            Check.due("the greatest promise", y.buy(0, 0, 9, 9, 9), -10 - (9 * 80 - 45));
        });
        SAYS.test(6, "Throws `IndexOutOfBoundsException` if there is no such coil", () -> {
            noSuchCoil("buy", (x, coil) -> x.buy(coil, 9, 9, 9, 9));
            noSuchCoil("buy for nothing", (x, coil) -> x.buy(coil, 0, 0, 0, 0));
            noSuchCoil("buy for too many", (x, coil) -> x.buy(coil, 0, 0, 0, 10));
        });
        SAYS.test(6, "Throws `IllegalArgumentException` if a number of coins is out of range", () -> {
            for (int coil = 0; coil <= 1; coil++) {
                int full = coil;
                Sentences.refused(ARGUMENT, Machines::used, "fives", (x, v) -> x.buy(full, v, 9, 9, 9),
                        LEAST, -1, 10, MOST);
                Sentences.refused(ARGUMENT, Machines::used, "tens", (x, v) -> x.buy(full, 9, v, 9, 9),
                        LEAST, -1, 10, MOST);
                Sentences.refused(ARGUMENT, Machines::used, "twenties", (x, v) -> x.buy(full, 9, 9, v, 9),
                        LEAST, -1, 10, MOST);
                Sentences.refused(ARGUMENT, Machines::used, "fifties", (x, v) -> x.buy(full, 9, 9, 9, v),
                        LEAST, -1, 10, MOST);
                Sentences.refused(ARGUMENT, Machines::used, "a number and nothing", (x, v) -> x.buy(full, 0, 0, v, 0),
                        -1, 10);
            }
        });
        SAYS.test(6, "Throws `IllegalStateException` if the sale is not possible", () -> {
            Sentences.refused(STATE, BoundsOfCallsTest::emptyCoil, "an empty coil", x -> x.buy(0, 9, 9, 9, 9));
            Sentences.refused(STATE, () -> Machines.withCoil(5, 5), "nothing put in", x -> x.buy(0, 0, 0, 0, 0));
            Sentences.refused(STATE, () -> Machines.withCoil(500, 500), "5 cents too little",
                    x -> x.buy(0, 1, 0, 2, 9));
            Check.due("enough", Machines.withCoil(500, 500).buy(0, 0, 1, 2, 9), 0);
            Sentences.refused(STATE, Machines::withoutFives, "105 beyond the limit", x -> x.buy(0, 0, 0, 0, 3));
            Check.due("95 within the limit", Machines.withoutFives().buy(0, 0, 0, 2, 2), -10 - 95);
        });
    }

    private static void coinsPutIn(String words, int tube, int worth) {
        SAYS.test(6, words, () -> {
            int[] none = new int[4];
            int[] nine = {9, 9, 9, 9};
            none[tube] = 9;
            nine[tube] = 0;
            CoilPrices x = Machines.withCoil(5, 5);
            Check.due("nine of these alone", x.buy(0, none[0], none[1], none[2], none[3]), 9 * worth - 5);
            CoilPrices y = Machines.withCoil(5, 5);
            Check.due("nine of all others", y.buy(0, nine[0], nine[1], nine[2], nine[3]), 9 * (85 - worth) - 5);
            int[] coins = {5, 5, 5, 5};
            int[] then = new int[4];
            int paid = 0;
            for (int i = 0; i < 4; i++) {
                then[i] = y.tube(i);
                paid += (coins[i] + nine[i] - then[i]) * new int[] {5, 10, 20, 50}[i];
            }
            Check.due("the coins that went out", paid, 9 * (85 - worth) - 5);
        });
    }

    private static void look() {
        SAYS.test(7, "its demand grows by 0.5f. Undoable.", () -> {
            CoilPrices x = eightCoils();
            x.look(7);
            Check.due("the demand", x.demand(7), 0.5f);
            Check.due("another", x.demand(6), 0.0f);
            Machines.look(x, 7, 399);
            Check.due("the demand", x.demand(7), 200.0f);
            x.undo();
            Check.due("the demand", x.demand(7), 199.5f);
        });
        SAYS.test(7, "- `coil`: number of a coil", () -> {
            Check.due("the first coil", eightCoils().look(0), 5);
            Check.due("the last coil", eightCoils().look(7), 40);
        });
        SAYS.test(7, "Returns its price.", () -> {
            CoilPrices x = Machines.loved(0);
            Check.due("the first price", x.look(0), 30);
            x.pass(48);
            Check.due("the highest price", x.look(0), 60);
        });
        SAYS.test(7, "Throws `IndexOutOfBoundsException` if there is no such coil",
                () -> noSuchCoil("look", CoilPrices::look));
    }

    private static void pass() {
        SAYS.test(8, "- `hours`: 1 to 48", () -> {
            CoilPrices x = new CoilPrices();
            x.pass(1);
            Check.due("one hour", x.value(1), 1);
            x.pass(48);
            Check.due("48 hours", x.value(1), 49);
        });
        SAYS.test(8, "Returns how many times two coils were fined in these hours.", () -> {
            Check.due("no coil", new CoilPrices().pass(48), 0);
            CoilPrices x = Machines.loved(2, 2);
            Check.due("before the fine", x.pass(1), 0);
            Check.due("the fine", x.pass(1), 1);
            Check.due("behind the fine", x.pass(3), 0);
            Check.due("two of them", x.pass(7), 2);
            Check.due("all of them", x.value(9), 3);
        });
        SAYS.test(8, "Throws `IllegalArgumentException` if hours is out of range", () -> {
            Sentences.refused(ARGUMENT, Machines::used, "hours", CoilPrices::pass, LEAST, -1, 0, 49, MOST);
            Sentences.refused(ARGUMENT, () -> Machines.atHour(100000), "hours in the last hour", CoilPrices::pass,
                    LEAST, -1, 0, 49, MOST);
        });
        SAYS.test(8, "Throws `IllegalStateException` if the hour would be greater than 100000", () -> {
            Sentences.refused(STATE, () -> Machines.atHour(100000), "hours in the last hour", CoilPrices::pass, 1, 48);
            Sentences.refused(STATE, () -> Machines.atHour(99999), "hours in the last but one",
                    CoilPrices::pass, 2, 48);
            Sentences.refused(STATE, () -> Machines.atHour(99953), "48 hours", CoilPrices::pass, 48);
            CoilPrices one = Machines.atHour(99999);
            one.pass(1);
            Check.due("the last hour", one.value(1), 100000);
            CoilPrices many = Machines.atHour(99952);
            many.pass(48);
            Check.due("the last hour", many.value(1), 100000);
            many.undo();
            Check.due("the hour, undone", many.value(1), 99952);
        });
    }

    private static void emptyBox() {
        SAYS.test(9, "Returns the money that was in it.", () -> {
            CoilPrices x = Machines.withCoil(45, 45);
            Check.due("an empty box", x.emptyBox(), 0);
            x.fill(0, 25);
            x.buy(0, 9, 0, 0, 0);
            Check.due("a box", x.emptyBox(), 45);
            Check.due("the box again", x.emptyBox(), 0);
            Check.due("its money", x.value(3), 0);
            x.undo();
            x.undo();
            Check.due("its money, undone", x.value(3), 45);
        });
    }

    private static void coil() {
        SAYS.test(10, "- `coil`: number of a coil", () -> {
            Check.due("the lowest price of the first", eightCoils().coil(0, 3), 5);
            Check.due("the lowest price of the last", eightCoils().coil(7, 3), 40);
        });
        SAYS.test(10, "- `what`: 0 its kind, 1 its stock, 2 its price, 3 its lowest price, 4 its highest one, "
                + "5 the hours for which it is banned, 6 its sales, 7 the sum of the prices of these, "
                + "8 its raises so far, 9 the count of common raises with the next coil (0 for the last one)", () -> {
            CoilPrices x = Machines.loved(4, 4);
            x.stock(0, 3);
            x.stock(1, 20);
            x.buy(0, 0, 3, 0, 0);
            x.pass(1);
            x.buy(1, 1, 3, 0, 0);
            int[][] due = {{4, 2, 35, 30, 60, 0, 1, 30, 1, 1}, {4, 19, 35, 30, 60, 0, 1, 35, 1, 0}};
            int[][] fined = {{4, 2, 30, 30, 60, 3, 1, 30, 2, 0}, {4, 19, 30, 30, 60, 3, 1, 35, 2, 0}};
            for (int coil = 0; coil < 2; coil++) {
                for (int what = 0; what <= 9; what++) {
                    Check.due("coil(" + coil + ", " + what + ")", x.coil(coil, what), due[coil][what]);
                }
            }
            x.pass(1);
            for (int coil = 0; coil < 2; coil++) {
                for (int what = 0; what <= 9; what++) {
                    Check.due("fined coil(" + coil + ", " + what + ")", x.coil(coil, what), fined[coil][what]);
                }
            }
        });
        SAYS.test(10, "Returns that value.", () -> {
            CoilPrices x = eightCoils();
            int[] first = {0, 0, 5, 5, 500, 0, 0, 0, 0, 0};
            int[] last = {1, 0, 40, 40, 500, 0, 0, 0, 0, 0};
            for (int what = 0; what <= 9; what++) {
                Check.due("coil(0, " + what + ")", x.coil(0, what), first[what]);
                Check.due("coil(7, " + what + ")", x.coil(7, what), last[what]);
            }
        });
        SAYS.test(10, "Throws `IndexOutOfBoundsException` if there is no such coil", () -> {
            noSuchCoil("coil", (x, coil) -> x.coil(coil, 0));
            noSuchCoil("coil, what -1", (x, coil) -> x.coil(coil, -1));
            noSuchCoil("coil, what 10", (x, coil) -> x.coil(coil, 10));
        });
        SAYS.test(10, "Throws `IllegalArgumentException` if what is out of range", () ->
            Sentences.refused(ARGUMENT, Machines::used, "what", (x, what) -> x.coil(2, what), LEAST, -1, 10, MOST));
    }

    private static void demand() {
        SAYS.test(11, "- `coil`: number of a coil", () -> {
            CoilPrices x = eightCoils();
            x.look(0);
            Machines.look(x, 7, 3);
            Check.due("the first coil", x.demand(0), 0.5f);
            Check.due("the last coil", x.demand(7), 1.5f);
        });
        SAYS.test(11, "Returns the demand.", () -> {
            CoilPrices x = emptyCoil();
            Check.due("no demand", x.demand(0), 0.0f);
            x.look(0);
            x.pass(48);
            Check.due("a small demand", x.demand(0), 0.5f / (1L << 48));
            x.set(2, 0);
            x.pass(1);
            Check.due("none is left", x.demand(0), 0.0f);
        });
        SAYS.test(11, "Throws `IndexOutOfBoundsException` if there is no such coil",
                () -> noSuchCoil("demand", CoilPrices::demand));
    }

    private static void tube() {
        SAYS.test(12, "- `tube`: 0 to 3", () -> {
            CoilPrices x = new CoilPrices();
            x.fill(0, 2);
            x.fill(3, 3);
            Check.due("the first tube", x.tube(0), 7);
            Check.due("the last tube", x.tube(3), 8);
        });
        SAYS.test(12, "Returns their number.", () -> {
            Check.due("none", Machines.withoutFives().tube(0), 0);
            Check.due("all that fit", Machines.withFullTubes().tube(0), 30);
        });
        SAYS.test(12, "Throws `IndexOutOfBoundsException` if there is no such tube (0 to 3)", () ->
            Sentences.refused(INDEX, Machines::used, "tube", CoilPrices::tube, LEAST, -1, 4, MOST));
    }

    private static void value() {
        SAYS.test(13, "- `what`: 0 the coils, 1 the hour, 2 the money in all tubes, 3 the money in the box, "
                + "4 the promises, 5 the sum of all promises, 6 the sum of the promises paid so far, 7 the sales, "
                + "8 the sum of the prices of all sales, 9 how many times two coils were fined so far, "
                + "10 the goods in all coils", () -> {
            CoilPrices x = Machines.used();
            x.pass(1);
            x.fill(0, 1);
            int[] due = {3, 2, 30 * 10 + 5 * 20 + 11 * 50, 90, 1, 45, 5, 7, 7 * 45, 1, 20};
            for (int what = 0; what <= 10; what++) {
                Check.due("value(" + what + ")", x.value(what), due[what]);
            }
        });
        SAYS.test(13, "Returns that number.", () -> {
            CoilPrices x = Machines.withFullTubes();
            Check.due("the most money in all tubes", x.value(2), 30 * 85);
            CoilPrices y = eightCoils();
            Check.due("all coils", y.value(0), 8);
            for (int coil = 0; coil < 8; coil++) {
                y.stock(coil, 20);
            }
            Check.due("all goods", y.value(10), 160);
            Check.due("the last hour", Machines.atHour(100000).value(1), 100000);
            CoilPrices z = Machines.used();
            int[][] paid = {{5, 45}, {50, 0}, {50, 0}};
            for (int[] due : paid) {
                z.fill(0, 1);
                Check.due("the promises paid so far", z.value(6), due[0]);
                Check.due("the sum of the others", z.value(5), due[1]);
            }
        });
        SAYS.test(13, "Throws `IllegalArgumentException` if what is out of range", () ->
            Sentences.refused(ARGUMENT, Machines::used, "what", CoilPrices::value, LEAST, -1, 11, MOST));
    }

    private static void setting() {
        SAYS.test(14, "- `what`: 0 to 4", () -> {
            Check.due("the first setting", new CoilPrices().setting(0), 20);
            Check.due("the last setting", new CoilPrices().setting(4), 10);
        });
        SAYS.test(14, "Returns its value.", () -> {
            CoilPrices x = new CoilPrices();
            int[] most = {100, 100, 100, 1000, 100};
            for (int what = 0; what <= 4; what++) {
                x.set(what, most[what]);
                Check.due("setting(" + what + ")", x.setting(what), most[what]);
            }
        });
        SAYS.test(14, "Throws `IllegalArgumentException` if what is out of range", () ->
            Sentences.refused(ARGUMENT, Machines::used, "what", CoilPrices::setting, LEAST, -1, 5, MOST));
    }

    private static void promise() {
        SAYS.test(15, "- `index`: 0 for the oldest one, and so on", () -> {
            Check.due("the oldest", Machines.used().promise(0), 5);
            Check.due("the youngest", Machines.used().promise(1), 45);
        });
        SAYS.test(15, "Returns its amount.", () -> {
            CoilPrices x = Machines.used();
            x.fill(0, 1);
            Check.due("the oldest, when one was paid", x.promise(0), 45);
            x.undo();
            Check.due("the oldest, undone", x.promise(0), 5);
            Check.due("the youngest, undone", x.promise(1), 45);
            CoilPrices most = mostPromises();
            Check.due("coins that are paid out at once", most.fill(0, 30), 30);
            Check.due("the coins that are left", most.tube(0), 0);
            Check.due("the promises that are left", most.value(4), 170);
            Check.due("the youngest, when 30 were paid", most.promise(169), 5);
        });
        SAYS.test(15, "Throws `IndexOutOfBoundsException` if there is no such promise", () -> {
            Sentences.refused(INDEX, Machines::used, "index", CoilPrices::promise, LEAST, -1, 2, 3, 199, 200, MOST);
            Sentences.refused(INDEX, CoilPrices::new, "index without promises", CoilPrices::promise, -1, 0, 1);
            Sentences.refused(INDEX, () -> {
                CoilPrices x = Machines.used();
                x.fill(0, 2);
                return x;
            }, "index when all are paid", CoilPrices::promise, -1, 0, 1);
            CoilPrices most = mostPromises();
            Check.due("the last of all promises that fit", most.promise(199), 5);
            Sentences.refused(INDEX, BoundsOfCallsTest::mostPromises, "index", CoilPrices::promise, 200);
            Sentences.refused(STATE, BoundsOfCallsTest::mostPromises, "a promise more", x -> x.buy(0, 0, 0, 0, 1));
        });
    }

    /** 200 promises of 5, and goods for more. */
    private static CoilPrices mostPromises() {
        CoilPrices x = Machines.withoutFives();
        x.set(3, 1000);
        for (int i = 0; i < 200; i++) {
            if (x.coil(0, 1) == 0) {
                x.stock(0, 20);
            }
            x.buy(0, 0, 0, 0, 1);
        }
        return x;
    }

    private static void change() {
        SAYS.test(16, "- `amount`: 0 to 2000", () -> {
            for (int tube = 0; tube < 4; tube++) {
                Check.due("nothing to pay", Machines.used().change(0, tube), 0);
            }
            CoilPrices x = Machines.withFullTubes();
            int[] most = {0, 0, 25, 30};
            for (int tube = 0; tube < 4; tube++) {
                Check.due("the greatest amount", x.change(2000, tube), most[tube]);
            }
        });
        SAYS.test(16, "- `tube`: 0 to 3", () -> {
            Check.due("the first tube", new CoilPrices().change(55, 0), 1);
            Check.due("the last tube", new CoilPrices().change(55, 3), 1);
        });
        SAYS.test(16, "Returns the coins of this tube that would be taken; NONE if the amount cannot be paid.", () -> {
            int[] all = {5, 5, 5, 5};
            for (int tube = 0; tube < 4; tube++) {
                Check.due("all coins", new CoilPrices().change(425, tube), all[tube]);
                Check.due("a five too many", new CoilPrices().change(430, tube), NONE);
                Check.due("no multiple of 5", new CoilPrices().change(1, tube), NONE);
                Check.due("the greatest amount", new CoilPrices().change(2000, tube), NONE);
            }
        });
        SAYS.test(16, "Throws `IllegalArgumentException` if amount is out of range", () -> {
            Sentences.refused(ARGUMENT, Machines::used, "amount", (x, v) -> x.change(v, 0), LEAST, -1, 2001, MOST);
            Sentences.refused(ARGUMENT, Machines::used, "amount and tube", (x, v) -> x.change(v, v),
                    LEAST, -1, 2001, MOST);
            Sentences.refused(ARGUMENT, Machines::used, "amount and tube 4", (x, v) -> x.change(v, 4), -5, 2005);
        });
        SAYS.test(16, "Throws `IndexOutOfBoundsException` if there is no such tube (0 to 3)", () -> {
            Sentences.refused(INDEX, Machines::used, "tube", (x, v) -> x.change(5, v), LEAST, -1, 4, MOST);
            Sentences.refused(INDEX, Machines::used, "tube, amount 0", (x, v) -> x.change(0, v), -1, 4);
            Sentences.refused(INDEX, Machines::used, "tube, amount 2000", (x, v) -> x.change(2000, v), -1, 4);
        });
    }

    private static void mostPayable() {
        SAYS.test(17, "- `bound`: 0 to 2000", () -> {
            Check.due("the least bound", new CoilPrices().mostPayable(0), 0);
            Check.due("the greatest bound", Machines.withFullTubes().mostPayable(2000), 2000);
            Check.due("the greatest but one", Machines.withFullTubes().mostPayable(1999), 1995);
        });
        SAYS.test(17, "Returns the amount.", () -> {
            CoilPrices x = new CoilPrices();
            int[][] due = {{4, 0}, {5, 5}, {9, 5}, {424, 420}, {425, 425}, {426, 425}, {2000, 425}};
            for (int[] d : due) {
                Check.due("mostPayable(" + d[0] + ")", x.mostPayable(d[0]), d[1]);
            }
            CoilPrices few = Machines.withoutSmallCoins();
            int[][] less = {{19, 0}, {20, 20}, {39, 20}, {40, 40}, {849, 830}, {850, 850}, {2000, 850}};
            for (int[] d : less) {
                Check.due("few coins, mostPayable(" + d[0] + ")", few.mostPayable(d[0]), d[1]);
            }
        });
        SAYS.test(17, "Throws `IllegalArgumentException` if bound is out of range", () ->
            Sentences.refused(ARGUMENT, Machines::used, "bound", CoilPrices::mostPayable, LEAST, -1, 2001, MOST));
    }

    private static void coinFor() {
        SAYS.test(18, "if it was in the tubes besides (a full tube does not matter).", () -> {
            CoilPrices x = new CoilPrices();
            x.fill(0, 25);
            Check.due("all of the full tube", x.coinFor(550), 4);
            Check.due("one five more", x.coinFor(555), 0);
            CoilPrices y = new CoilPrices();
            y.fill(3, 25);
            Check.due("one fifty more", y.coinFor(30 * 50 + 175 + 50), 3);
            y.fill(1, 25);
            y.fill(0, 25);
            Check.due("one five more, where two tubes are full", y.coinFor(1500 + 300 + 150 + 45), 4);
        });
        SAYS.test(18, "- `amount`: 0 to 2000", () -> {
            Check.due("the least amount", Machines.withoutSmallCoins().coinFor(0), 4);
            Check.due("the greatest amount", Machines.withFullTubes().coinFor(2000), 4);
            Check.due("the greatest amount", new CoilPrices().coinFor(2000), NONE);
        });
        SAYS.test(18, "Returns the tube of the coin, of several the lowest one; 4 if the amount can be paid as it is; "
                + "NONE if no single coin suffices.", () -> {
            CoilPrices x = new CoilPrices();
            int[][] due = {{425, 4}, {430, 0}, {435, 1}, {440, 2}, {445, 2}, {450, 3}, {470, 3}, {475, 3},
                {480, NONE}, {1, NONE}, {4, NONE}, {6, NONE}};
            for (int[] d : due) {
                Check.due("coinFor(" + d[0] + ")", x.coinFor(d[0]), d[1]);
            }
            CoilPrices few = Machines.withoutSmallCoins();
            int[][] less = {{5, 0}, {10, 1}, {15, NONE}, {20, 4}, {30, 1}, {860, 1}, {870, 2}, {900, 3}, {910, NONE}};
            for (int[] d : less) {
                Check.due("few coins, coinFor(" + d[0] + ")", few.coinFor(d[0]), d[1]);
            }
        });
        SAYS.test(18, "Throws `IllegalArgumentException` if amount is out of range", () ->
            Sentences.refused(ARGUMENT, Machines::used, "amount", CoilPrices::coinFor, LEAST, -1, 2001, MOST));
    }

    private static void priceIn() {
        SAYS.test(19, "- `coil`: number of a coil", () -> {
            Check.due("the first coil", eightCoils().priceIn(0, 1), 5);
            Check.due("the last coil", eightCoils().priceIn(7, 1), 40);
        });
        SAYS.test(19, "- `hours`: 0 to 48", () -> {
            CoilPrices x = new CoilPrices();
            x.addCoil(0, 5, 500);
            x.set(2, 100);
            Machines.look(x, 0, 4);
            Check.due("no hour", x.priceIn(0, 0), 5);
            Check.due("one hour", x.priceIn(0, 1), 10);
            Check.due("48 hours", x.priceIn(0, 48), 5 + 48 * 5);
            Check.due("the price now", x.coil(0, 2), 5);
        });
        SAYS.test(19, "Returns the price.", () -> {
            int[] prices = {35, 30, 30, 30, 30, 35, 30, 30};
            CoilPrices x = Machines.loved(1, 1);
            x.pass(1);
            for (int hours = 0; hours < prices.length; hours++) {
                Check.due("the price in " + hours + " hours", x.priceIn(1, hours), prices[hours]);
            }
            Check.due("kinds that differ", Machines.loved(1, 2).priceIn(1, 2), 40);
            Check.due("beyond the last hour", Machines.atHour(100000).priceIn(2, 48), 5);
        });
        SAYS.test(19, "Throws `IndexOutOfBoundsException` if there is no such coil", () -> {
            noSuchCoil("priceIn", (x, coil) -> x.priceIn(coil, 0));
            noSuchCoil("priceIn -1 hours", (x, coil) -> x.priceIn(coil, -1));
            noSuchCoil("priceIn 49 hours", (x, coil) -> x.priceIn(coil, 49));
        });
        SAYS.test(19, "Throws `IllegalArgumentException` if hours is out of range", () ->
            Sentences.refused(ARGUMENT, Machines::used, "hours", (x, v) -> x.priceIn(0, v), LEAST, -1, 49, MOST));
    }

    private static void salesInARow() {
        SAYS.test(20, "- `coil`: number of a coil", () -> {
            CoilPrices x = eightCoils();
            x.stock(0, 1);
            x.stock(7, 2);
            Check.due("the first coil", x.salesInARow(0, 9, 9), 1);
            Check.due("the last coil", x.salesInARow(7, 4, 0), 2);
        });
        SAYS.test(20, "- `tens`: coins of 10 cents that each puts in, 0 to 9", () -> {
            Check.due("none", Machines.withCoil(10, 10).salesInARow(0, 0, 0), 0);
            Check.due("nine, 90 needed", Machines.withCoil(90, 90).salesInARow(0, 9, 0), 20);
            Check.due("nine, 95 needed", Machines.withCoil(95, 95).salesInARow(0, 9, 0), 0);
        });
        SAYS.test(20, "- `fifties`: coins of 50 cents that each puts in, 0 to 9", () -> {
            Check.due("none", Machines.withCoil(50, 50).salesInARow(0, 0, 0), 0);
            Check.due("nine, 450 needed", Machines.withCoil(450, 450).salesInARow(0, 0, 9), 20);
            Check.due("nine, 455 needed", Machines.withCoil(455, 455).salesInARow(0, 0, 9), 0);
        });
        SAYS.test(20, "Returns the number of sales until the first that is not possible.", () -> {
            Check.due("an empty coil", emptyCoil().salesInARow(0, 9, 9), 0);
            Check.due("too little", Machines.withCoil(15, 15).salesInARow(0, 1, 0), 0);
            Check.due("all goods", Machines.withCoil(10, 10).salesInARow(0, 1, 0), 20);
            CoilPrices x = Machines.withCoil(45, 45);
            int[][] due = {{100, 20}, {70, 19}, {74, 19}, {75, 20}, {5, 6}, {4, 5}, {0, 5}};
            for (int[] d : due) {
                x.set(3, d[0]);
                Check.due("the limit " + d[0], x.salesInARow(0, 0, 1), d[1]);
            }
        });
        SAYS.test(20, "Throws `IndexOutOfBoundsException` if there is no such coil", () -> {
            noSuchCoil("salesInARow", (x, coil) -> x.salesInARow(coil, 9, 9));
            noSuchCoil("salesInARow, -1 tens", (x, coil) -> x.salesInARow(coil, -1, 0));
            noSuchCoil("salesInARow, 10 fifties", (x, coil) -> x.salesInARow(coil, 0, 10));
        });
        SAYS.test(20, "Throws `IllegalArgumentException` if a number of coins is out of range", () -> {
            for (int coil = 0; coil <= 1; coil++) {
                int full = coil;
                Sentences.refused(ARGUMENT, Machines::used, "tens", (x, v) -> x.salesInARow(full, v, 9),
                        LEAST, -1, 10, MOST);
                Sentences.refused(ARGUMENT, Machines::used, "fifties", (x, v) -> x.salesInARow(full, 9, v),
                        LEAST, -1, 10, MOST);
            }
        });
    }

    private static void favorite() {
        SAYS.test(21, "Returns the coil, of several the lowest one; NONE if there is none.", () -> {
            Check.due("no coil", new CoilPrices().favorite(), NONE);
            CoilPrices x = eightCoils();
            Check.due("no demand", x.favorite(), 0);
            x.look(7);
            Check.due("the last coil", x.favorite(), 7);
            x.look(0);
            Check.due("the first of two", x.favorite(), 0);
            x.look(7);
            Check.due("the last coil again", x.favorite(), 7);
            x.set(2, 0);
            x.pass(1);
            Check.due("no demand is left", x.favorite(), 0);
        });
    }

    private static CoilPrices fullText() {
        CoilPrices x = Machines.used();
        x.clearText();
        Machines.write(x, "h1;".repeat(32) + "h02;");
        return x;
    }

    private static void append() {
        SAYS.test(22, "- `value`: the byte, 0 to 127", () -> {
            CoilPrices x = new CoilPrices();
            Check.due("the least byte", x.append(0), 1);
            Check.due("the greatest byte", x.append(127), 2);
        });
        SAYS.test(22, "Returns the new length of the text.", () -> {
            CoilPrices x = new CoilPrices();
            for (int length = 1; length <= 100; length++) {
                Check.due("the length", x.append('h'), length);
            }
            x.clearText();
            Check.due("the length of a new text", x.append('h'), 1);
        });
        SAYS.test(22, "Throws `IllegalArgumentException` if value is out of range", () -> {
            Sentences.refused(ARGUMENT, Machines::used, "byte", CoilPrices::append, LEAST, -1, 128, MOST);
            Sentences.refused(ARGUMENT, CoilPrices::new, "first byte", CoilPrices::append, -1, 128);
            Sentences.refused(ARGUMENT, BoundsOfCallsTest::fullText, "byte of a full text", CoilPrices::append,
                    LEAST, -1, 128, MOST);
        });
        SAYS.test(22, "Throws `IllegalStateException` if the text has 100 bytes", () -> {
            Sentences.refused(STATE, BoundsOfCallsTest::fullText, "byte of a full text", CoilPrices::append, 0, 127);
            Check.due("the orders of a full text", fullText().carryOut(), 33);
        });
    }

    private static void clearText() {
        SAYS.test(23, "Returns the length that it had.", () -> {
            Check.due("an empty text", new CoilPrices().clearText(), 0);
            CoilPrices x = fullText();
            Check.due("a full text", x.clearText(), 100);
            Check.due("the empty text then", x.clearText(), 0);
            Check.due("no orders are left", x.carryOut(), 0);
            x.append('x');
            Check.due("one byte", x.clearText(), 1);
        });
    }

    private static int carriedOut(CoilPrices x, String text) {
        x.clearText();
        Machines.write(x, text);
        return x.carryOut();
    }

    private static void carryOut() {
        SAYS.test(24, "Carries out the orders of the text, up to the first one that would throw an exception.", () -> {
            Check.due("no such coil to stock", carriedOut(new CoilPrices(), "h1;s0x1;h1;"), 1);
            Check.due("no such coil to buy from", carriedOut(new CoilPrices(), "h1;b7,1,0,0,0;h1;"), 1);
            Check.due("the last coil", carriedOut(eightCoils(), "s7x20;b7,0,0,2,0;"), 2);
            Check.due("the first coil", carriedOut(eightCoils(), "s0x1;b0,1,0,0,0;b0,1,0,0,0;h1;"), 2);
            CoilPrices full = emptyCoil();
            Check.due("too many goods", carriedOut(full, "s0x1;s0x19;s0x1;h1;"), 2);
            Check.due("goods then", full.coil(0, 1), 20);
            Check.due("the hour then", full.value(1), 0);
            Check.due("too little put in", carriedOut(Machines.withCoil(5, 5), "b0,1,0,0,0;b0,0,0,0,0;h1;"), 1);
            CoilPrices limit = Machines.withoutFives();
            limit.set(3, 5);
            Check.due("beyond the limit", carriedOut(limit, "b0,0,0,0,1;b0,0,0,0,1;h1;"), 1);
            CoilPrices late = Machines.atHour(99999);
            Check.due("beyond the last hour", carriedOut(late, "h1;f0x1;h1;f1x1;"), 2);
            Check.due("the last hour", late.value(1), 100000);
            Check.due("two hours at once", carriedOut(Machines.atHour(99999), "h2;h1;"), 0);
        });
        SAYS.test(24, "The text stays as it is.", () -> {
            CoilPrices x = new CoilPrices();
            Check.due("an error", carriedOut(x, "h1;x"), -10 - 3);
            Check.due("the same error", x.carryOut(), -10 - 3);
            Check.due("another one", carriedOut(x, "y"), -10);
            Check.due("two orders", carriedOut(x, "h1;f1x30;"), 2);
            Machines.tubes(x, 5, 30, 5, 5);
            Check.due("the same orders", x.carryOut(), 2);
            Check.due("the hour", x.value(1), 2);
            x.append('f');
            Check.due("half an order more", x.carryOut(), -10 - 10);
            Machines.write(x, "0x1;");
            Check.due("three orders", x.carryOut(), 3);
            Machines.tubes(x, 6, 30, 5, 5);
            Check.due("the length", x.clearText(), 14);
        });
        SAYS.test(24, "Undoable (one saved state, also if no order is carried out), if there is no syntax error.",
                () -> {
                    for (String text : new String[] {"", "s0x1;", "h1;h1;h1;h1;h1;h1;"}) {
                        CoilPrices x = new CoilPrices();
                        carriedOut(x, text);
                        Check.due("undo behind \"" + text + "\"", x.undo(), 0);
                        Check.due("the hour", x.value(1), 0);
                    }
                    CoilPrices wrong = new CoilPrices();
                    carriedOut(wrong, "h1;h");
                    int count = 0;
                    try {
                        count = 1 + wrong.undo();
                    } catch (IllegalStateException none) {
                        count = 0;
                    }
                    Check.due("states saved in spite of a syntax error", count, 0);
                });
        SAYS.test(24, "Returns the number of orders that are carried out; -10 minus the syntax error position "
                + "if there is a syntax error (then nothing changes).", () -> {
            Check.due("no order", carriedOut(new CoilPrices(), ""), 0);
            Check.due("one order", carriedOut(new CoilPrices(), "h1;"), 1);
            Check.due("33 orders", fullText().carryOut(), 33);
            Check.due("an error at the first byte", carriedOut(new CoilPrices(), "x"), -10);
            Check.due("an error at the last byte", carriedOut(new CoilPrices(), "h1;".repeat(33) + "x"), -10 - 99);
            Check.due("an error at the end", carriedOut(new CoilPrices(), "h1;".repeat(33) + "h"), -10 - 100);
            for (String text : new String[] {"f0x1;h", "f0x1;h0;", "f0x1;x", "s0x1;f0x31"}) {
                CoilPrices x = Machines.used();
                CoilPrices twin = Machines.used();
                twin.clearText();
                Machines.write(twin, text);
                carriedOut(x, text);
                Machines.mustBeSame("behind the wrong \"" + text + "\"", x, twin);
            }
        });
    }

    private static void undo() {
        SAYS.test(25, "Restores the most recently saved state and removes it from the saved states.", () -> {
            CoilPrices x = new CoilPrices();
            x.pass(1);
            x.pass(2);
            x.undo();
            Check.due("the hour", x.value(1), 1);
            x.pass(4);
            x.undo();
            Check.due("the hour", x.value(1), 1);
            x.undo();
            Check.due("the hour", x.value(1), 0);
        });
        SAYS.test(25, "Returns the number of saved states that remain.", () -> {
            for (int calls = 1; calls <= 6; calls++) {
                CoilPrices x = new CoilPrices();
                for (int i = 0; i < calls; i++) {
                    x.pass(1);
                }
                for (int left = Math.min(4, calls) - 1; left >= 0; left--) {
                    Check.due("behind " + calls + " calls", x.undo(), left);
                }
            }
        });
        SAYS.test(25, "Throws `IllegalStateException` if there is no saved state", () -> {
            Sentences.refused(STATE, CoilPrices::new, "undo", CoilPrices::undo);
            Sentences.refused(STATE, () -> {
                CoilPrices x = Machines.used();
                for (int i = 0; i < 4; i++) {
                    x.undo();
                }
                return x;
            }, "a fifth undo", CoilPrices::undo);
        });
    }

    private static void digest() {
        SAYS.test(26, "Start with h = 3643", () -> {
            digestMustHold("a new machine", new CoilPrices(), 0, 0);
            digestMustHold("eight coils", eightCoils(), 0, 4);
            digestMustHold("a used machine", Machines.used(), 13, 4);
            digestMustHold("a full text", fullText(), 100, 4);
            digestMustHold("200 promises", mostPromises(), 0, 4);
            digestMustHold("the last hour", Machines.atHour(100000), 0, 4);
            CoilPrices x = new CoilPrices();
            for (int saved = 1; saved <= 5; saved++) {
                x.pass(1);
                digestMustHold(saved + " calls", x, 0, Math.min(4, saved));
            }
        });
        SAYS.test(26, "Returns the hash, with the overflow of long arithmetic ignored.", () -> {
            boolean negative = false;
            boolean positive = false;
            CoilPrices x = Machines.used();
            for (int i = 0; i < 64; i++) {
                x.look(i % 3);
                digestMustHold("a demand", x, 13, 4);
                negative |= x.digest() < 0;
                positive |= x.digest() > 0;
            }
            Check.due("hashes of both signs", negative && positive ? 1 : 0, 1);
        });
    }

    /** The hash is found without overflow, and its lowest 64 bits are due. */
    private static void digestMustHold(String when, CoilPrices x, int length, int saved) {
        BigInteger h = BigInteger.valueOf(31L * 3643 + length);
        for (long v : Machines.picture(x)) {
            h = h.multiply(BigInteger.valueOf(31)).add(BigInteger.valueOf(v));
        }
        h = h.multiply(BigInteger.valueOf(31)).add(BigInteger.valueOf(saved));
        Check.due("digest of " + when, x.digest(), h.longValue());
    }
}
