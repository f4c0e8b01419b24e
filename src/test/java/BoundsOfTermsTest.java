/** The sentences under 'Terms' that name a boundary case, each with a test of its own. */
public final class BoundsOfTermsTest {
    private static final Sentences SAYS = new Sentences();
    private static final int TERMS = Sentences.TERMS;

    private BoundsOfTermsTest() {
    }

    public static void main(String[] args) {
        coils();
        tubes();
        settings();
        change();
        sale();
        saleThatIsNotPossible();
        promises();
        priceGoesUp();
        priceGoesDown();
        bans();
        commonRaises();
        fines();
        fading();
        savedStates();
        Check.finish();
    }

    private static void test(String words, Runnable test) {
        SAYS.test(TERMS, words, test);
    }

    private static CoilPrices eightCoils() {
        CoilPrices x = new CoilPrices();
        for (int i = 0; i < 8; i++) {
            x.addCoil(i % 6, 5, 500);
        }
        return x;
    }

    private static void coils() {
        test("There are at most 8 coils, numbered from 0.", () -> {
            CoilPrices x = new CoilPrices();
            for (int i = 0; i < 8; i++) {
                Check.due("addCoil", x.addCoil(5 - i % 6, 5, 500), i);
            }
            for (int i = 0; i < 8; i++) {
                Check.due("the kind of coil " + i, x.coil(i, 0), 5 - i % 6);
            }
            Sentences.refused(Sentences.STATE, BoundsOfTermsTest::eightCoils, "a ninth coil",
                    y -> y.addCoil(0, 5, 500));
        });
        test("a kind of goods, 0 to 5", () -> {
            CoilPrices x = new CoilPrices();
            x.addCoil(0, 5, 5);
            x.addCoil(5, 5, 5);
            Check.due("the least kind", x.coil(0, 0), 0);
            Check.due("the greatest kind", x.coil(1, 0), 5);
            Sentences.refused(Sentences.ARGUMENT, Machines::used, "kind",
                    (y, kind) -> y.addCoil(kind, 5, 5), -1, 6);
        });
        test("a stock, 0 to 20", () -> {
            CoilPrices x = new CoilPrices();
            x.addCoil(0, 5, 5);
            Check.due("the first stock", x.coil(0, 1), 0);
            Check.due("the greatest stock", x.stock(0, 20), 20);
            for (int left = 19; left >= 0; left--) {
                x.buy(0, 1, 0, 0, 0);
                Check.due("the stock", x.coil(0, 1), left);
            }
            Sentences.refused(Sentences.STATE, () -> Machines.withCoil(5, 5), "the 21st of the goods",
                    y -> y.stock(0, 1));
        });
        test("a price between them (all three are multiples of 5, 5 to 500)", () -> {
            CoilPrices x = new CoilPrices();
            x.addCoil(0, 5, 500);
            x.set(0, 1);
            x.set(2, 100);
            x.look(0);
            x.pass(48);
            x.pass(48);
            x.pass(2);
            Check.due("the price below the greatest", x.coil(0, 2), 495);
            x.pass(1);
            Check.due("the greatest price", x.coil(0, 2), 500);
            x.pass(1);
            Check.due("the greatest price still", x.coil(0, 2), 500);
            x.set(2, 0);
            x.pass(1);
            x.pass(48);
            x.pass(48);
            x.pass(2);
            Check.due("the price above the least", x.coil(0, 2), 10);
            x.pass(1);
            Check.due("the least price", x.coil(0, 2), 5);
            x.pass(1);
            Check.due("the least price still", x.coil(0, 2), 5);
        });
        test("a demand, 0.0f at first", () -> {
            Check.due("the demand", eightCoils().demand(0), 0.0f);
            Check.due("the demand of the last coil", eightCoils().demand(7), 0.0f);
        });
        test("hours for which it is banned, 0 at first", () -> {
            CoilPrices x = Machines.loved(3);
            Check.due("the hours of its ban", x.coil(0, 5), 0);
            x.pass(1);
            Check.due("the price behind the first hour", x.coil(0, 2), 35);
        });
        test("The price is the lowest one at first.", () -> {
            CoilPrices x = new CoilPrices();
            x.addCoil(0, 5, 500);
            x.addCoil(0, 500, 500);
            Check.due("the price", x.coil(0, 2), 5);
            Check.due("the price", x.coil(1, 2), 500);
        });
    }

    private static void tubes() {
        test("There are four tubes, numbered from 0, for the coins of 5, 10, 20 and 50 cents", () -> {
            int[] worth = {5, 10, 20, 50};
            for (int tube = 0; tube < 4; tube++) {
                CoilPrices x = new CoilPrices();
                x.fill(tube, 1);
                Check.due("money with a coin more in tube " + tube, x.value(2), 425 + worth[tube]);
            }
            Sentences.refused(Sentences.INDEX, Machines::used, "tube", CoilPrices::tube, -1, 4);
        });
        test("each holds at most 30 coins, 5 at first", () -> {
            for (int tube = 0; tube < 4; tube++) {
                CoilPrices x = new CoilPrices();
                Check.due("coins at first", x.tube(tube), 5);
                Check.due("24 coins", x.fill(tube, 24), 24);
                Check.due("coins then", x.tube(tube), 29);
                Check.due("two coins where one fits", x.fill(tube, 2), 1);
                Check.due("coins then", x.tube(tube), 30);
                Check.due("a coin for the full tube", x.fill(tube, 1), 0);
                Check.due("coins then", x.tube(tube), 30);
            }
        });
        test("What does not fit into its tube goes into the box", () -> {
            CoilPrices x = Machines.withCoil(45, 45);
            x.fill(0, 16);
            x.buy(0, 9, 0, 0, 0);
            Machines.tubes(x, 30, 5, 5, 5);
            Check.due("the box, when all just fit", x.value(3), 0);
            x.undo();
            x.fill(0, 1);
            x.buy(0, 9, 0, 0, 0);
            Machines.tubes(x, 30, 5, 5, 5);
            Check.due("the box, when one does not fit", x.value(3), 5);
            x.buy(0, 9, 0, 0, 0);
            Machines.tubes(x, 30, 5, 5, 5);
            Check.due("the box, when none fits", x.value(3), 50);
        });
        test("from which nothing is paid.", () -> {
            CoilPrices x = Machines.withCoil(45, 45);
            x.fill(0, 25);
            x.buy(0, 9, 0, 0, 0);
            Check.due("the box", x.value(3), 45);
            Check.due("the money of the tubes", x.change(550, 0), 30);
            Check.due("a coin more", x.change(555, 0), CoilPrices.NONE);
            Check.due("the most", x.mostPayable(2000), 550);
        });
    }

    private static void settings() {
        setting("0 raising (20; 1 to 100)", 0, 20, 1, 100, new int[] {0, 101});
        setting("1 falling (5; 0 to 100)", 1, 5, 0, 100, new int[] {-1, 101});
        setting("2 fading (50; 0 to 100), in percent", 2, 50, 0, 100, new int[] {-1, 101});
        setting("3 the limit of promises (100; 0 to 1000)", 3, 100, 0, 1000, new int[] {-1, 1001});
        setting("4 the fine (10; 0 to 100, a multiple of 5)", 4, 10, 0, 100,
                new int[] {-5, -1, 1, 4, 6, 99, 101, 105});
    }

    private static void setting(String words, int what, int first, int least, int most, int[] beyond) {
        test(words, () -> {
            CoilPrices x = new CoilPrices();
            Check.due("the first value", x.setting(what), first);
            x.set(what, least);
            Check.due("the least value", x.setting(what), least);
            x.set(what, most);
            Check.due("the greatest value", x.setting(what), most);
            Sentences.refused(Sentences.ARGUMENT, Machines::used, "setting " + what,
                    (y, value) -> y.set(what, value), beyond);
        });
    }

    private static void way(CoilPrices x, int amount, int... coins) {
        for (int tube = 0; tube < 4; tube++) {
            Check.due("change(" + amount + ", " + tube + ")", x.change(amount, tube), coins[tube]);
        }
    }

    private static void change() {
        test("An amount can be paid if some coins of the tubes have just this value.", () -> {
            CoilPrices x = new CoilPrices();
            way(x, 0, 0, 0, 0, 0);
            way(x, 5, 1, 0, 0, 0);
            way(x, 420, 4, 5, 5, 5);
            way(x, 425, 5, 5, 5, 5);
            way(x, 430, -1, -1, -1, -1);
            way(x, 4, -1, -1, -1, -1);
            way(x, 6, -1, -1, -1, -1);
            CoilPrices few = Machines.withoutSmallCoins();
            way(few, 0, 0, 0, 0, 0);
            way(few, 10, -1, -1, -1, -1);
            way(few, 20, 0, 0, 1, 0);
            way(few, 30, -1, -1, -1, -1);
            way(few, 60, 0, 0, 3, 0);
            way(few, 750, 0, 0, 0, 15);
            way(few, 850, 0, 0, 5, 15);
            way(few, 860, -1, -1, -1, -1);
        });
        test("It is paid with the fewest coins", () -> {
            CoilPrices x = new CoilPrices();
            way(x, 10, 0, 1, 0, 0);
            way(x, 20, 0, 0, 1, 0);
            way(x, 50, 0, 0, 0, 1);
            way(x, 60, 0, 1, 0, 1);
            way(x, 100, 0, 0, 0, 2);
            way(x, 30, 0, 1, 1, 0);
        });
        test("of several ways with the one that has more coins of 50, then more of 20, then more of 10.", () -> {
            CoilPrices x = Machines.withCoil(40, 40);
            for (int i = 0; i < 5; i++) {
                x.buy(0, 0, 0, 0, 1);
            }
            Machines.tubes(x, 5, 0, 5, 10);
            way(x, 60, 2, 0, 0, 1);
            way(x, 80, 2, 0, 1, 1);
            way(x, 510, 2, 0, 0, 10);
        });
    }

    private static void sale() {
        test("A customer puts coins into the machine; they go into the tubes (or the box).", () -> {
            CoilPrices x = Machines.withCoil(5, 5);
            x.buy(0, 1, 0, 0, 0);
            Machines.tubes(x, 6, 5, 5, 5);
            Check.due("the box", x.value(3), 0);
            x.fill(0, 24);
            x.buy(0, 1, 0, 0, 0);
            Machines.tubes(x, 30, 5, 5, 5);
            Check.due("the box", x.value(3), 5);
        });
        test("The change is what was put in minus the price.", () -> {
            CoilPrices x = Machines.withCoil(85, 85);
            Check.due("no change", x.buy(0, 1, 1, 1, 1), 0);
            Check.due("the least change", x.buy(0, 2, 1, 1, 1), 5);
            CoilPrices y = Machines.withCoil(5, 5);
            Check.due("the most change", y.buy(0, 9, 9, 9, 9), 9 * 85 - 5);
        });
        test("If it can be paid from the tubes then, it is paid; otherwise all of it is promised.", () -> {
            CoilPrices x = Machines.withoutFives();
            Check.due("his own fives come back", x.buy(0, 2, 0, 2, 0), 5);
            Machines.tubes(x, 1, 5, 7, 10);
            Check.due("his own five comes back", x.buy(0, 0, 0, 0, 1), 5);
            Machines.tubes(x, 0, 5, 7, 11);
            Check.due("all but a five could be paid", x.buy(0, 0, 1, 0, 1), -10 - 15);
            Machines.tubes(x, 0, 6, 7, 12);
            Machines.promises(x, 15);
        });
        test("By a sale the stock falls by 1, and the demand of the coil grows by 1.0f.", () -> {
            CoilPrices x = new CoilPrices();
            x.addCoil(0, 5, 5);
            x.addCoil(0, 5, 5);
            x.stock(0, 1);
            x.stock(1, 20);
            x.buy(0, 1, 0, 0, 0);
            Check.due("the stock", x.coil(0, 1), 0);
            Check.due("the demand", x.demand(0), 1.0f);
            Check.due("the other stock", x.coil(1, 1), 20);
            Check.due("the other demand", x.demand(1), 0.0f);
        });
    }

    private static CoilPrices emptyCoil() {
        CoilPrices x = new CoilPrices();
        x.addCoil(0, 5, 5);
        return x;
    }

    /** No fives, one promise of 5, and this limit. */
    private static CoilPrices oneFivePromised(int limit) {
        CoilPrices x = Machines.withoutFives();
        x.buy(0, 0, 0, 0, 1);
        x.set(3, limit);
        return x;
    }

    private static void saleThatIsNotPossible() {
        test("A sale is not possible if the coil is empty", () -> {
            Sentences.refused(Sentences.STATE, BoundsOfTermsTest::emptyCoil, "a sale", x -> x.buy(0, 1, 0, 0, 0));
            CoilPrices x = emptyCoil();
            x.stock(0, 1);
            Check.due("the only one of the goods", x.buy(0, 1, 0, 0, 0), 0);
        });
        test("if too little was put in", () -> {
            Sentences.refused(Sentences.STATE, () -> Machines.withCoil(85, 85), "a sale for 80",
                    x -> x.buy(0, 0, 1, 1, 1));
            Sentences.refused(Sentences.STATE, () -> Machines.withCoil(5, 5), "a sale for nothing",
                    x -> x.buy(0, 0, 0, 0, 0));
            Check.due("a sale for 85", Machines.withCoil(85, 85).buy(0, 1, 1, 1, 1), 0);
        });
        test("if the change cannot be paid and the sum of all promises would be greater than the limit.", () -> {
            Check.due("up to the limit", oneFivePromised(10).buy(0, 0, 0, 0, 1), -15);
            Sentences.refused(Sentences.STATE, () -> oneFivePromised(9), "a sale beyond the limit",
                    x -> x.buy(0, 0, 0, 0, 1));
            Sentences.refused(Sentences.STATE, () -> oneFivePromised(0), "a sale far beyond the limit",
                    x -> x.buy(0, 0, 0, 0, 1));
            Check.due("a promise above the limit", oneFivePromised(0).value(5), 5);
            Check.due("change that can be paid", oneFivePromised(0).buy(0, 1, 0, 0, 1), 10);
            Check.due("no change", oneFivePromised(0).buy(0, 1, 0, 2, 0), 0);
        });
    }

    private static void promises() {
        test("They are kept in the order in which they were made.", () -> {
            CoilPrices x = Machines.withoutFives();
            Machines.promises(x);
            x.buy(0, 0, 1, 0, 1);
            x.buy(0, 0, 0, 0, 1);
            x.buy(0, 0, 0, 1, 1);
            Machines.promises(x, 15, 5, 25);
        });
        test("Behind each sale and each filling of tubes, the oldest promise is paid", () -> {
            CoilPrices x = oneFivePromised(100);
            x.fill(0, 1);
            Machines.promises(x);
            Machines.tubes(x, 0, 5, 5, 11);
            CoilPrices y = oneFivePromised(100);
            y.buy(0, 1, 0, 2, 0);
            Machines.promises(y);
            Machines.tubes(y, 0, 5, 7, 11);
        });
        test("if its amount can be paid, then the next one, and so on, up to the first that cannot be paid.", () -> {
            CoilPrices x = Machines.withoutSmallCoins();
            x.buy(0, 0, 0, 0, 1);
            x.buy(1, 0, 0, 0, 1);
            x.buy(1, 0, 0, 0, 1);
            Machines.promises(x, 10, 5, 5);
            x.fill(0, 1);
            Machines.promises(x, 10, 5, 5);
            x.fill(0, 1);
            Machines.promises(x, 5, 5);
            Machines.tubes(x, 0, 0, 5, 18);
            x.fill(0, 1);
            Machines.promises(x, 5);
            x.fill(0, 30);
            Machines.promises(x);
            Machines.tubes(x, 29, 0, 5, 18);
            x.fill(0, 1);
            Machines.promises(x);
            Machines.tubes(x, 30, 0, 5, 18);
        });
    }

    /** One coil for 30 to 60 cents, looked at so many times; its demand does not fade. */
    private static CoilPrices looked(int times, int raising, int falling) {
        CoilPrices x = new CoilPrices();
        x.addCoil(0, 30, 60);
        Machines.look(x, 0, times);
        x.set(0, raising);
        x.set(1, falling);
        x.set(2, 100);
        return x;
    }

    private static int priceAfter(CoilPrices x, int hours) {
        for (int i = 0; i < hours; i++) {
            x.pass(1);
        }
        return x.coil(0, 2);
    }

    private static void priceGoesUp() {
        test("if 10.0f * demand is at least raising", () -> {
            Check.due("15 tenths, raising 15", priceAfter(looked(3, 15, 0), 1), 35);
            Check.due("15 tenths, raising 16", priceAfter(looked(3, 16, 0), 1), 30);
            Check.due("100 tenths, raising 100", priceAfter(looked(20, 100, 0), 1), 35);
            Check.due("95 tenths, raising 100", priceAfter(looked(19, 100, 0), 1), 30);
            Check.due("0 tenths, raising 1", priceAfter(looked(0, 1, 0), 1), 30);
            Check.due("5 tenths, raising 1, falling 100", priceAfter(looked(1, 1, 100), 1), 35);
        });
        test("all arithmetic of floats is done in the order told", () -> {
            CoilPrices x = looked(4, 100, 0);
            x.set(2, 70);
            x.pass(1);
            Check.due("demand 1.4f", x.demand(0), 1.4f);
            x.set(0, 14);
            Check.due("10.0f * 1.4f is 14, raising 14", priceAfter(x, 1), 35);
        });
        test("it is not banned", () -> {
            CoilPrices x = Machines.loved(1, 1);
            x.pass(2);
            int[] bans = {3, 2, 1, 0};
            int[] raises = {2, 2, 2, 2};
            for (int hour = 0; hour < bans.length; hour++) {
                Check.due("the ban " + hour + " hours later", x.coil(0, 5), bans[hour]);
                Check.due("the raises " + hour + " hours later", x.coil(0, 8), raises[hour]);
                x.pass(1);
            }
            Check.due("the raises without a ban", x.coil(0, 8), 3);
        });
        test("and its price is below its highest one, the price goes up by 5", () -> {
            Check.due("below the highest price", priceAfter(looked(4, 20, 0), 5), 55);
            Check.due("just below it", priceAfter(looked(4, 20, 0), 6), 60);
            Check.due("at the highest price", priceAfter(looked(4, 20, 0), 7), 60);
            CoilPrices x = looked(4, 20, 0);
            x.pass(7);
            Check.due("the raises", x.coil(0, 8), 6);
        });
    }

    private static void priceGoesDown() {
        test("(also for a coil that is banned, or has its highest price)", () -> {
            CoilPrices banned = Machines.loved(1, 1);
            banned.set(4, 0);
            banned.pass(2);
            banned.set(1, 51);
            Check.due("the price of a banned coil", priceAfter(banned, 1), 35);
            Check.due("the price at the highest", priceAfter(looked(4, 20, 100), 7), 55);
        });
        test("if 10.0f * demand is less than falling", () -> {
            Check.due("15 tenths, falling 15", fallen(15, 100), 35);
            Check.due("15 tenths, falling 16", fallen(16, 100), 30);
            Check.due("15 tenths, falling 100", fallen(100, 100), 30);
            Check.due("0 tenths, falling 0", fallen(0, 0), 35);
            Check.due("0 tenths, falling 1", fallen(1, 0), 30);
        });
        test("and the price is above the lowest one, it goes down by 5.", () -> {
            CoilPrices x = looked(4, 20, 5);
            x.pass(2);
            x.set(2, 0);
            x.pass(1);
            Check.due("before it falls", x.coil(0, 2), 45);
            Check.due("one fall", priceAfter(x, 1), 40);
            Check.due("two falls", priceAfter(x, 1), 35);
            Check.due("three falls", priceAfter(x, 1), 30);
            Check.due("at the lowest price", priceAfter(x, 1), 30);
        });
    }

    /** The price in the hour after it was 35; the demand is 1.5f then, or it has faded to 0. */
    private static int fallen(int falling, int fading) {
        CoilPrices x = looked(3, 15, 0);
        x.set(2, fading);
        x.pass(1);
        x.set(0, 100);
        x.set(1, falling);
        return priceAfter(x, 1);
    }

    private static void bans() {
        test("The hours of each ban fall by 1, not below 0.", () -> {
            CoilPrices x = Machines.loved(1, 1, 2);
            x.pass(2);
            x.set(0, 100);
            int[] bans = {2, 1, 0, 0, 0};
            for (int ban : bans) {
                x.pass(1);
                Check.due("the ban", x.coil(0, 5), ban);
                Check.due("the ban of the neighbor", x.coil(1, 5), ban);
                Check.due("no ban", x.coil(2, 5), 0);
            }
            x.pass(48);
            Check.due("the ban at last", x.coil(0, 5), 0);
        });
    }

    private static void commonRaises() {
        test("For each two neighboring coils c and c + 1 of the same kind", () -> {
            Check.due("one coil", Machines.loved(1).pass(2), 0);
            Check.due("no coil", Machines.loved().pass(2), 0);
            Check.due("two of a kind", Machines.loved(0, 0).pass(2), 1);
            Check.due("two kinds", Machines.loved(0, 1).pass(2), 0);
            Check.due("another between them", Machines.loved(1, 0, 1).pass(2), 0);
            Check.due("the first and the last", Machines.loved(1, 0, 2, 3, 4, 5, 0, 1).pass(2), 0);
            CoilPrices eight = Machines.loved(5, 5, 5, 5, 5, 5, 5, 5);
            Check.due("eight coils", eight.pass(2), 7);
            Check.due("the ban of the last one", eight.coil(7, 5), 3);
        });
        test("(even if one of them was fined just before)", () -> {
            CoilPrices x = Machines.loved(1, 1, 1);
            x.set(4, 5);
            Check.due("fines", x.pass(2), 2);
            Check.due("fined twice", x.coil(1, 2), 30);
            Check.due("fined once", x.coil(2, 2), 35);
        });
        test("their count of common raises increases by 1, otherwise it becomes 0.", () -> {
            CoilPrices x = Machines.loved(1, 1);
            Check.due("the count at first", x.coil(0, 9), 0);
            x.pass(1);
            Check.due("both have raised", x.coil(0, 9), 1);
            CoilPrices both = Machines.loved(1, 1);
            both.pass(1);
            both.set(0, 51);
            both.pass(1);
            Check.due("none has raised", both.coil(0, 9), 0);
            for (int coil = 0; coil < 2; coil++) {
                CoilPrices one = Machines.loved(1, 1);
                one.pass(1);
                Machines.look(one, coil, 1);
                one.set(0, 55);
                Check.due("one has raised", one.pass(1), 0);
                Check.due("one has raised", one.coil(0, 9), 0);
                one.set(0, 50);
                Check.due("both have raised again", one.pass(1), 0);
                Check.due("both have raised again", one.coil(0, 9), 1);
            }
        });
    }

    private static CoilPrices withFine(int fine) {
        CoilPrices x = Machines.loved(1, 1);
        x.set(4, fine);
        return x;
    }

    private static void fines() {
        test("If it is 2 then, they are fined", () -> {
            CoilPrices x = Machines.loved(1, 1);
            Check.due("a first common raise", x.pass(1), 0);
            Check.due("the price", x.coil(0, 2), 35);
            Check.due("a second one", x.pass(1), 1);
            Check.due("the price", x.coil(0, 2), 30);
            Check.due("the fines", x.value(9), 1);
        });
        test("the price of each falls by the fine, not below its lowest one", () -> {
            int[] fines = {0, 5, 10, 15, 100};
            int[] prices = {40, 35, 30, 30, 30};
            for (int i = 0; i < fines.length; i++) {
                CoilPrices x = withFine(fines[i]);
                x.pass(2);
                Check.due("the price, fined " + fines[i], x.coil(0, 2), prices[i]);
                Check.due("the neighbor's price, fined " + fines[i], x.coil(1, 2), prices[i]);
            }
        });
        test("both are banned for 3 hours, and the count becomes 0.", () -> {
            CoilPrices x = Machines.loved(1, 1);
            x.pass(2);
            Check.due("the ban", x.coil(0, 5), 3);
            Check.due("the neighbor's ban", x.coil(1, 5), 3);
            Check.due("the count", x.coil(0, 9), 0);
            Check.due("three hours of a ban and one more", x.pass(4), 0);
            Check.due("one more", x.pass(1), 1);
        });
    }

    private static void fading() {
        test("The demand of each coil becomes demand * (float) fading / 100.0f.", () -> {
            Check.due("fading 0", faded(3, 0), 0.0f);
            Check.due("fading 100", faded(3, 100), 1.5f);
            Check.due("fading 1", faded(3, 1), 0.015f);
            Check.due("fading 99", faded(3, 99), 1.485f);
            Check.due("fading 3, multiplied first", faded(3, 3), 1.5f * 3.0f / 100.0f);
            Check.due("fading 1, then 15, as float", faded(1, 1, 15), 0.5f * 1.0f / 100.0f * 15.0f / 100.0f);
            Check.due("no demand", faded(0, 50), 0.0f);
        });
    }

    private static float faded(int looks, int... fadings) {
        CoilPrices x = looked(looks, 20, 5);
        for (int fading : fadings) {
            x.set(2, fading);
            x.pass(1);
        }
        return x.demand(0);
    }

    private static void savedStates() {
        test("saves the state from before the call, even if the call changes nothing", () -> {
            savesOne("", "a set to the same value", x -> x.set(0, 20));
            savesOne("", "a fill of a full tube", x -> x.fill(0, 30));
            savesOne("", "an empty box", CoilPrices::emptyBox);
            savesOne("", "no orders", CoilPrices::carryOut);
            savesOne("s0x1;", "a first order that would throw", CoilPrices::carryOut);
        });
        test("at most 4 states are saved, and the oldest is dropped first.", () -> {
            CoilPrices x = new CoilPrices();
            for (int saved = 1; saved <= 4; saved++) {
                x.pass(saved);
            }
            Check.due("the first of four states", undos(x), 4);
            Check.due("the hour at first", x.value(1), 0);
            for (int hours = 1; hours <= 5; hours++) {
                x.pass(hours);
            }
            Check.due("four of five states", undos(x), 4);
            Check.due("the hour behind the first", x.value(1), 1);
            for (int hours = 1; hours <= 9; hours++) {
                x.pass(1);
            }
            Check.due("four of nine states", undos(x), 4);
            Check.due("the hour behind five more", x.value(1), 6);
        });
        test("The saved state contains everything except the text.", () -> {
            CoilPrices x = Machines.used();
            CoilPrices twin = Machines.used();
            x.fill(0, 30);
            x.buy(0, 9, 9, 9, 9);
            x.pass(48);
            x.emptyBox();
            x.undo();
            x.undo();
            x.undo();
            x.undo();
            Check.due("the values", Machines.picture(x).equals(Machines.picture(twin)) ? 1 : 0, 1);
            x.set(0, 1);
            x.clearText();
            x.undo();
            Check.due("the text that was emptied", x.clearText(), 0);
            x.set(0, 1);
            x.append('h');
            x.undo();
            Check.due("the text that was begun", x.clearText(), 1);
        });
    }

    /** Three states are saved before. */
    private static CoilPrices fullTubeAndText(String text) {
        CoilPrices x = Machines.withCoil(5, 5);
        x.fill(0, 25);
        Machines.write(x, text);
        return x;
    }

    private static void savesOne(String text, String name, Sentences.Call call) {
        CoilPrices x = fullTubeAndText(text);
        call.on(x);
        Check.due("undo() behind " + name, x.undo(), 3);
        Machines.mustBeSame("behind " + name + ", undone", x, fullTubeAndText(text));
    }

    /** Undoes all, and answers how often. */
    private static int undos(CoilPrices x) {
        for (int count = 0; ; count++) {
            try {
                x.undo();
            } catch (IllegalStateException none) {
                return count;
            }
        }
    }
}
