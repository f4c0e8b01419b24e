import java.io.IOException;
import java.nio.file.Files;
import java.nio.file.Path;
import java.util.List;
import java.util.Set;
import java.util.function.Supplier;

/**
 * The sentences of the document that name no boundary case, each with a test of its own; and that, with
 * those of the tests of bounds, no sentence of 'Terms' and of the promises is left without a test.
 */
public final class EverySentenceTest {
    private static final Sentences SAYS = new Sentences();
    private static final int TERMS = Sentences.TERMS;
    private static final Class<?> ARGUMENT = Sentences.ARGUMENT;
    private static final Class<?> STATE = Sentences.STATE;
    private static final Class<?> INDEX = Sentences.INDEX;
    private static final int NONE = CoilPrices.NONE;
    private static final Path PROGRAM = Path.of("src/main/java/CoilPrices.java");
    private static final Set<String> UNDOABLE =
            Set.of("set", "addCoil", "stock", "fill", "buy", "look", "pass", "emptyBox", "carryOut");

    /** A call of the face with arguments that few() allows. */
    private enum Call {
        SET("set", x -> x.set(4, 55)),
        ADD_COIL("addCoil", x -> x.addCoil(3, 20, 30)),
        STOCK("stock", x -> x.stock(0, 2)),
        FILL("fill", x -> x.fill(0, 1)),
        BUY("buy", x -> x.buy(0, 1, 0, 2, 0)),
        LOOK("look", x -> x.look(0)),
        PASS("pass", x -> x.pass(3)),
        EMPTY_BOX("emptyBox", CoilPrices::emptyBox),
        COIL("coil", x -> x.coil(0, 7)),
        DEMAND("demand", x -> x.demand(0)),
        TUBE("tube", x -> x.tube(1)),
        VALUE("value", x -> x.value(5)),
        SETTING("setting", x -> x.setting(2)),
        PROMISE("promise", x -> x.promise(1)),
        CHANGE("change", x -> x.change(120, 2)),
        MOST_PAYABLE("mostPayable", x -> x.mostPayable(99)),
        COIN_FOR("coinFor", x -> x.coinFor(45)),
        PRICE_IN("priceIn", x -> x.priceIn(0, 9)),
        SALES_IN_A_ROW("salesInARow", x -> x.salesInARow(0, 3, 1)),
        FAVORITE("favorite", CoilPrices::favorite),
        APPEND("append", x -> x.append('h')),
        CLEAR_TEXT("clearText", CoilPrices::clearText),
        CARRY_OUT("carryOut", CoilPrices::carryOut),
        UNDO("undo", CoilPrices::undo),
        DIGEST("digest", CoilPrices::digest);

        final String name;
        final Sentences.Call call;

        Call(String name, Sentences.Call call) {
            this.name = name;
            this.call = call;
        }
    }

    private EverySentenceTest() {
    }

    public static void main(String[] args) throws IOException {
        lastCall();
        objectsAreApart();
        moneyAndDemands();
        coilsAndSettings();
        hours();
        orders();
        undo();
        exceptions();
        constants();
        machineCalls();
        valueCalls();
        paymentQuestions();
        otherQuestions();
        textCalls();
        digest();
        BoundsOfTermsTest.main(args);
        BoundsOfTextTest.main(args);
        BoundsOfCallsTest.main(args);
        SAYS.mustHaveTestedEverySentence();
        Check.finish();
    }

    private static void test(String words, Runnable test) {
        SAYS.test(TERMS, words, test);
    }

    /** One coil, two promises, 90 cents in the box, three saved states, and a text. */
    private static CoilPrices few() {
        CoilPrices x = new CoilPrices();
        x.addCoil(1, 45, 90);
        x.set(2, 80);
        Machines.write(x, "s0x20;f1x30;" + "b0,0,0,0,1;".repeat(6) + "b0,0,9,0,0;");
        Check.due("set-up: carryOut()", x.carryOut(), 9);
        Machines.promises(x, 5, 45);
        Check.due("set-up: the box", x.value(3), 90);
        x.clearText();
        Machines.write(x, "h1;");
        return x;
    }

    private static List<Supplier<CoilPrices>> someMachines() {
        return List.of(EverySentenceTest::few, Machines::used, Machines::withoutFives, Machines::withoutSmallCoins,
                () -> Machines.withCoil(35, 60), Machines::withFullTubes, () -> Machines.loved(1, 1, 1),
                () -> Machines.loved(0, 5, 5, 5), () -> Machines.atHour(7));
    }

    /** 'What it is' tells that an object is used for 512 calls: the last one must hold, too. */
    private static void lastCall() {
        CoilPrices x = new CoilPrices();
        x.addCoil(0, 5, 5);
        for (int call = 2; call < 512; call++) {
            x.look(0);
        }
        Check.due("the 512th call", x.demand(0), 255.0f);
        CoilPrices y = new CoilPrices();
        for (int texts = 0; texts < 5; texts++) {
            for (int length = 1; length <= 100; length++) {
                Check.due("append", y.append('h'), length);
            }
            Check.due("clearText", y.clearText(), 100);
        }
        Machines.write(y, "h1;h2;");
        Check.due("the 512th call", y.carryOut(), 2);
    }

    private static void objectsAreApart() {
        CoilPrices one = few();
        CoilPrices other = Machines.used();
        one.fill(0, 30);
        one.buy(0, 0, 0, 0, 1);
        one.clearText();
        one.undo();
        Machines.mustBeSame("another object", other, Machines.used());
    }

    private static void moneyAndDemands() {
        test("Money is counted in cents.", () -> {
            CoilPrices x = Machines.withCoil(35, 35);
            Check.due("a change of 15 cents", x.buy(0, 0, 0, 0, 1), 15);
            Check.due("the money in all tubes", x.value(2), 425 + 35);
            Check.due("the prices of the sales", x.value(8), 35);
        });
        test("Demands are floats; all arithmetic of floats is done in the order told.", () -> {
            CoilPrices x = Machines.withCoil(5, 5);
            x.set(2, 33);
            float single = 0.0f;
            double twofold = 0.0;
            boolean differed = false;
            for (int hour = 0; hour < 40; hour++) {
                x.look(0);
                x.pass(1);
                single = (single + 0.5f) * 33.0f / 100.0f;
                twofold = (twofold + 0.5) * 33.0 / 100.0;
                Check.due("the demand in hour " + hour, x.demand(0), single);
                differed |= single != twofold;
            }
            Check.due("float and double differ", differed ? 1 : 0, 1);
        });
    }

    private static void coilsAndSettings() {
        test("A coil has a kind of goods, 0 to 5, a stock, 0 to 20, a lowest and a highest price, a price between them "
                + "(all three are multiples of 5, 5 to 500), a demand, 0.0f at first, and hours for which it is banned, "
                + "0 at first.", () -> {
            CoilPrices x = new CoilPrices();
            x.addCoil(4, 30, 60);
            x.addCoil(4, 35, 70);
            int[][] first = {{4, 0, 30, 30, 60, 0}, {4, 0, 35, 35, 70, 0}};
            int[][] then = {{4, 7, 35, 30, 60, 3}, {4, 0, 40, 35, 70, 3}};
            factsMustBe(x, first);
            x.stock(0, 7);
            x.set(2, 100);
            x.set(4, 5);
            Machines.look(x, 0, 5);
            Machines.look(x, 1, 6);
            x.pass(2);
            factsMustBe(x, then);
            Check.due("the demand", x.demand(0), 2.5f);
            Check.due("the other demand", x.demand(1), 3.0f);
        });
        test("Settings (first value; range): 0 raising (20; 1 to 100), 1 falling (5; 0 to 100), "
                + "both in tenths of demand", () -> {
            int[] looks = {3, 4, 1, 0};
            int[] prices = {40, 45, 40, 35};
            for (int i = 0; i < looks.length; i++) {
                CoilPrices x = Machines.loved(2);
                x.pass(2);
                x.set(2, 0);
                x.set(0, 100);
                x.set(1, 0);
                x.pass(1);
                x.set(0, 20);
                x.set(1, 5);
                Machines.look(x, 0, looks[i]);
                x.pass(1);
                Check.due("the price behind " + looks[i] + " looks", x.coil(0, 2), prices[i]);
            }
        });
    }

    private static void factsMustBe(CoilPrices x, int[][] facts) {
        for (int coil = 0; coil < facts.length; coil++) {
            for (int what = 0; what < facts[coil].length; what++) {
                Check.due("coil(" + coil + ", " + what + ")", x.coil(coil, what), facts[coil][what]);
            }
        }
    }

    private static void hours() {
        test("When an hour passes, these things happen, in this order:", () -> {
            CoilPrices x = Machines.loved(1, 1);
            int[][] priceAndBan = {{35, 0}, {30, 3}, {30, 2}, {30, 1}, {30, 0}, {35, 0}, {30, 3}};
            for (int hour = 1; hour <= priceAndBan.length; hour++) {
                x.pass(1);
                for (int coil = 0; coil < 2; coil++) {
                    Check.due("the price in hour " + hour, x.coil(coil, 2), priceAndBan[hour - 1][0]);
                    Check.due("the ban in hour " + hour, x.coil(coil, 5), priceAndBan[hour - 1][1]);
                }
            }
            CoilPrices fades = Machines.loved(1);
            fades.set(2, 0);
            fades.pass(1);
            Check.due("the price goes up before the demand fades", fades.coil(0, 2), 35);
            fades.pass(1);
            Check.due("the price goes down then", fades.coil(0, 2), 30);
        });
        test("1. Each coil, in ascending order, sets its price:", () -> {
            CoilPrices x = Machines.loved(0, 1, 2, 3, 4, 5, 0, 1);
            x.pass(2);
            x.set(2, 0);
            x.pass(1);
            int[] looks = {0, 1, 4, 0, 3, 4, 4, 0};
            int[] prices = {40, 45, 50, 40, 45, 50, 50, 40};
            for (int coil = 0; coil < 8; coil++) {
                Machines.look(x, coil, looks[coil]);
            }
            x.pass(1);
            for (int coil = 0; coil < 8; coil++) {
                Check.due("the price of coil " + coil, x.coil(coil, 2), prices[coil]);
            }
        });
        test("the price goes up by 5, and the coil has raised its price in this hour; otherwise", () -> {
            CoilPrices x = Machines.loved(3);
            x.set(2, 50);
            int[] prices = {35, 40, 40, 40, 35, 30, 30};
            int[] raises = {1, 2, 2, 2, 2, 2, 2};
            for (int hour = 1; hour <= prices.length; hour++) {
                x.pass(1);
                Check.due("the price in hour " + hour, x.coil(0, 2), prices[hour - 1]);
                Check.due("the raises in hour " + hour, x.coil(0, 8), raises[hour - 1]);
            }
        });
        test("of the same kind, in ascending order of c: if both have raised their prices in this hour", () -> {
            CoilPrices x = new CoilPrices();
            x.set(2, 0);
            x.addCoil(1, 30, 60);
            x.addCoil(1, 30, 60);
            for (int hour = 0; hour < 6; hour++) {
                Machines.look(x, hour % 2, 4);
                Check.due("one raises, then the other: fines", x.pass(1), 0);
                Check.due("one raises, then the other: the count", x.coil(0, 9), 0);
            }
            CoilPrices three = Machines.loved(1, 1, 1);
            three.pass(1);
            Check.due("the first count", three.coil(0, 9), 1);
            Check.due("the second count", three.coil(1, 9), 1);
            Check.due("both pairs are fined", three.pass(1), 2);
        });
    }

    private static CoilPrices written(String text) {
        CoilPrices x = few();
        x.clearText();
        Machines.write(x, text);
        return x;
    }

    private static void orders() {
        test("It is a sequence of orders, each terminated by a semicolon", () -> {
            CoilPrices x = written("s0x2;b0,1,1,1,1;f0x3;h12;h5;f3x1;");
            CoilPrices twin = few();
            Check.due("carryOut()", x.carryOut(), 6);
            twin.stock(0, 2);
            twin.buy(0, 1, 1, 1, 1);
            twin.fill(0, 3);
            twin.pass(12);
            twin.pass(5);
            twin.fill(3, 1);
            Machines.mustLookSame("the orders one by one", x, twin);
        });
        test("four digits, each after a comma: the coins of 5, 10, 20 and 50 cents that are put in for a sale", () -> {
            CoilPrices x = written("b0,1,2,3,4;");
            CoilPrices twin = few();
            Check.due("carryOut()", x.carryOut(), 1);
            twin.buy(0, 1, 2, 3, 4);
            Machines.mustLookSame("a sale", x, twin);
        });
        test("to fill in so many coins", () -> {
            for (int tube = 0; tube < 4; tube++) {
                CoilPrices x = written("f" + tube + "x17;");
                CoilPrices twin = few();
                Check.due("carryOut()", x.carryOut(), 1);
                twin.fill(tube, 17);
                Machines.mustLookSame("a filling", x, twin);
            }
        });
        test("The syntax error position is the index of the first byte", () -> {
            String orders = "s0x1;b0,1,0,0,0;f0x1;h1;";
            for (int at = 0; at <= orders.length(); at++) {
                CoilPrices x = written(orders.substring(0, at) + "?" + orders.substring(at));
                Check.due("a wrong byte at " + at, x.carryOut(), -10 - at);
            }
        });
    }

    private static void undo() {
        test("Each successful call of a method whose description says \"undoable\" saves the state from before the call",
                () -> {
                    for (Call call : Call.values()) {
                        if (call != Call.UNDO && call != Call.CLEAR_TEXT && call != Call.APPEND) {
                            savesIfUndoable(call);
                        }
                    }
                    CoilPrices x = few();
                    Call.APPEND.call.on(x);
                    Call.CLEAR_TEXT.call.on(x);
                    Machines.write(x, "h1;");
                    Machines.mustBeSame("behind append and clearText", x, few());
                });
    }

    private static void savesIfUndoable(Call call) {
        CoilPrices x = few();
        call.call.on(x);
        if (UNDOABLE.contains(call.name)) {
            Check.due("undo() behind " + call.name, x.undo(), 3);
        }
        Machines.mustBeSame("behind " + call.name, x, few());
    }

    private static void exceptions() {
        test("A call that throws an exception changes nothing.", () -> {
            Sentences.refused(ARGUMENT, Machines::used, "set", x -> x.set(0, 0));
            Sentences.refused(ARGUMENT, Machines::used, "addCoil", x -> x.addCoil(0, 10, 5));
            Sentences.refused(STATE, Machines::used, "stock", x -> x.stock(0, 20));
            Sentences.refused(ARGUMENT, Machines::used, "fill", x -> x.fill(0, 0));
            Sentences.refused(STATE, Machines::used, "buy", x -> x.buy(0, 0, 0, 0, 0));
            Sentences.refused(INDEX, Machines::used, "look", x -> x.look(3));
            Sentences.refused(ARGUMENT, Machines::used, "pass", x -> x.pass(0));
            Sentences.refused(ARGUMENT, Machines::used, "coil", x -> x.coil(0, 10));
            Sentences.refused(INDEX, Machines::used, "demand", x -> x.demand(3));
            Sentences.refused(INDEX, Machines::used, "tube", x -> x.tube(4));
            Sentences.refused(ARGUMENT, Machines::used, "value", x -> x.value(11));
            Sentences.refused(ARGUMENT, Machines::used, "setting", x -> x.setting(5));
            Sentences.refused(INDEX, Machines::used, "promise", x -> x.promise(2));
            Sentences.refused(INDEX, Machines::used, "change", x -> x.change(0, 4));
            Sentences.refused(ARGUMENT, Machines::used, "mostPayable", x -> x.mostPayable(2001));
            Sentences.refused(ARGUMENT, Machines::used, "coinFor", x -> x.coinFor(2001));
            Sentences.refused(ARGUMENT, Machines::used, "priceIn", x -> x.priceIn(0, 49));
            Sentences.refused(ARGUMENT, Machines::used, "salesInARow", x -> x.salesInARow(0, 10, 0));
            Sentences.refused(ARGUMENT, Machines::used, "append", x -> x.append(128));
            Sentences.refused(STATE, CoilPrices::new, "undo", CoilPrices::undo);
        });
        test("If several exceptions apply, the one that is listed first is thrown.", () -> {
            Sentences.refused(ARGUMENT, EverySentenceTest::full, "addCoil", x -> x.addCoil(0, 10, 5));
            Sentences.refused(INDEX, EverySentenceTest::full, "stock", x -> x.stock(8, 21));
            Sentences.refused(ARGUMENT, EverySentenceTest::full, "stock", x -> x.stock(0, 21));
            Sentences.refused(INDEX, EverySentenceTest::full, "fill", x -> x.fill(4, 31));
            Sentences.refused(INDEX, EverySentenceTest::full, "buy", x -> x.buy(8, 0, 0, 0, 10));
            Sentences.refused(ARGUMENT, EverySentenceTest::full, "buy", x -> x.buy(7, 0, 0, 0, 10));
            Sentences.refused(ARGUMENT, () -> Machines.atHour(99990), "pass", x -> x.pass(49));
            Sentences.refused(INDEX, EverySentenceTest::full, "coil", x -> x.coil(8, 10));
            Sentences.refused(ARGUMENT, EverySentenceTest::full, "change", x -> x.change(2001, 4));
            Sentences.refused(INDEX, EverySentenceTest::full, "priceIn", x -> x.priceIn(8, 49));
            Sentences.refused(INDEX, EverySentenceTest::full, "salesInARow", x -> x.salesInARow(8, 10, 10));
            Sentences.refused(ARGUMENT, EverySentenceTest::full, "append", x -> x.append(128));
        });
    }

    /** Eight coils, of which the first is full and the others are empty, and a full text. */
    private static CoilPrices full() {
        CoilPrices x = Machines.withCoil(5, 5);
        for (int coil = 1; coil < 8; coil++) {
            x.addCoil(0, 5, 5);
        }
        Machines.write(x, "f0x1;".repeat(20));
        return x;
    }

    private static void constants() throws IOException {
        test("The constants: `NONE = -1`: There is no such thing.", () -> {
            Check.due("NONE", NONE, -1);
            Check.due("no coil", new CoilPrices().favorite(), NONE);
            Check.due("no way to pay", new CoilPrices().change(430, 0), NONE);
            Check.due("no coin", new CoilPrices().coinFor(2000), NONE);
        });
        String program = Files.readString(PROGRAM);
        part(program, "machine", "set", "addCoil", "stock", "fill", "buy", "look", "pass", "emptyBox");
        part(program, "values", "coil", "demand", "tube", "value", "setting", "promise");
        part(program, "what if", "change", "mostPayable", "coinFor", "priceIn", "salesInARow", "favorite");
        part(program, "text", "append", "clearText", "carryOut");
        part(program, "state", "undo", "digest");
    }

    /** The program says so too, and tells these calls there in this order. */
    private static void part(String program, String title, String... names) {
        test("Ahead of the calls `" + String.join("`, `", names) + "` the interface says: ---- " + title + ".", () -> {
            int at = program.indexOf("    // ---- " + title + "\n");
            int end = at < 0 ? -1 : program.indexOf("    // ---- ", at + 1);
            for (String name : names) {
                at = program.indexOf(" " + name + "(", Math.max(0, at));
                if (at < 0 || at > end) {
                    Check.complain("not told in the part '" + title + "': " + name);
                }
            }
        });
    }

    private static void undoable(int section, String words, Call call, Runnable what) {
        SAYS.test(section, words, () -> {
            savesIfUndoable(call);
            what.run();
        });
    }

    private static void machineCalls() {
        CoilPrices x = few();
        undoable(2, "Sets a setting. Undoable.", Call.SET, () -> {
            x.set(4, 55);
            Check.due("the fine", x.setting(4), 55);
            Check.due("the limit", x.setting(3), 100);
        });
        undoable(3, "Adds a coil without goods. Undoable.", Call.ADD_COIL, () -> {
            Check.due("addCoil", x.addCoil(2, 30, 60), 1);
            Check.due("its goods", x.coil(1, 1), 0);
        });
        undoable(4, "Stocks goods. Undoable.", Call.STOCK, () -> {
            x.stock(1, 4);
            Check.due("its goods", x.coil(1, 1), 4);
            Check.due("the goods beside", x.coil(0, 1), 13);
        });
        undoable(5, "Fills coins into a tube, as far as they fit; the others are not taken. Then promises are paid. "
                + "Undoable.", Call.FILL, () -> {
            Machines.tubes(x, 0, 30, 5, 11);
            x.fill(0, 1);
            Machines.tubes(x, 0, 30, 5, 11);
            Machines.promises(x, 45);
            x.fill(1, 1);
            Check.due("the box", x.value(3), 90);
        });
        undoable(6, "Makes a sale, and pays promises then. Undoable.", Call.BUY, () -> {
            Check.due("a sale", x.buy(0, 1, 0, 2, 0), 0);
            Machines.promises(x);
            Machines.tubes(x, 0, 30, 5, 11);
            Check.due("the promises paid so far", x.value(6), 50);
        });
        undoable(7, "Tells that somebody looked at a coil: its demand grows by 0.5f. Undoable.", Call.LOOK, () -> {
            x.look(1);
            Check.due("its demand", x.demand(1), 0.5f);
            Check.due("its sales", x.coil(1, 6), 0);
        });
        undoable(8, "Lets hours pass. Undoable.", Call.PASS, () -> {
            x.pass(3);
            Check.due("the hour", x.value(1), 3);
            x.pass(2);
            Check.due("the hour then", x.value(1), 5);
        });
        undoable(9, "Empties the box. Undoable.", Call.EMPTY_BOX, () -> {
            Check.due("emptyBox", x.emptyBox(), 90);
            Check.due("the box", x.value(3), 0);
            Machines.tubes(x, 0, 30, 5, 11);
        });
    }

    private static void valueCalls() {
        CoilPrices x = few();
        value(10, "Returns something about a coil.", Call.COIL, x.coil(0, 7), 7 * 45);
        value(11, "Returns the demand of a coil.", Call.DEMAND, Float.floatToIntBits(x.demand(0)),
                Float.floatToIntBits(7.0f));
        value(12, "Returns the coins in a tube.", Call.TUBE, x.tube(1), 30);
        value(13, "Returns a number.", Call.VALUE, x.value(5), 50);
        value(14, "Returns a setting.", Call.SETTING, x.setting(2), 80);
        value(15, "Returns a promise.", Call.PROMISE, x.promise(1), 45);
    }

    private static void value(int section, String words, Call call, long got, long due) {
        SAYS.test(section, words, () -> {
            savesIfUndoable(call);
            Check.due(call.name, got, due);
        });
    }

    private static boolean canPay(CoilPrices x, int amount) {
        return x.change(amount, 0) != NONE;
    }

    private static void paymentQuestions() {
        SAYS.test(16, "Tells how an amount would be paid now.", () -> {
            for (int price = 5; price <= 105; price += 5) {
                wayMustBeTaken(Machines.withCoil(price, price), Machines.withCoil(price, price), 105 - price);
            }
            for (int sales = 1; sales <= 5; sales++) {
                CoilPrices x = Machines.withCoil(45, 45);
                CoilPrices twin = Machines.withCoil(45, 45);
                for (int i = 0; i < sales; i++) {
                    x.buy(0, 0, 0, 0, 1);
                    twin.buy(0, 0, 0, 0, 1);
                }
                wayMustBeTaken(x, twin, 60);
            }
        });
        SAYS.test(17, "Tells the greatest amount that can be paid now and is at most a bound.", () -> {
            for (Supplier<CoilPrices> start : someMachines()) {
                CoilPrices x = start.get();
                int most = 0;
                for (int bound = 0; bound <= 2000; bound++) {
                    most = canPay(x, bound) ? bound : most;
                    Check.due("mostPayable(" + bound + ")", x.mostPayable(bound), most);
                }
            }
        });
        SAYS.test(18, "Tells one coin by which an amount could be paid, if it was in the tubes besides", () -> {
            for (Supplier<CoilPrices> start : someMachines()) {
                for (int amount = 0; amount <= 2000; amount += amount < 200 ? 5 : 65) {
                    coinMustHelp(start, amount);
                }
            }
        });
    }

    /** A customer puts a five and two fifties in, the twin gets them too and tells the way. */
    private static void wayMustBeTaken(CoilPrices x, CoilPrices twin, int change) {
        twin.fill(0, 1);
        twin.fill(3, 2);
        Check.due("buy", x.buy(0, 1, 0, 0, 2), change);
        for (int tube = 0; tube < 4; tube++) {
            int paid = twin.tube(tube) - x.tube(tube);
            Check.due("change(" + change + ", " + tube + ")", twin.change(change, tube), paid);
        }
    }

    /** Puts the coins in one by one, where there is room. */
    private static void coinMustHelp(Supplier<CoilPrices> start, int amount) {
        CoilPrices x = start.get();
        int due = canPay(x, amount) ? 4 : NONE;
        for (int tube = 0; tube < 4 && due == NONE; tube++) {
            if (x.tube(tube) == 30) {
                return;
            }
            CoilPrices with = start.get();
            int promises = with.value(4);
            with.fill(tube, 1);
            if (with.value(4) != promises) {
                return;
            }
            due = canPay(with, amount) ? tube : NONE;
        }
        Check.due("coinFor(" + amount + ")", x.coinFor(amount), due);
    }

    private static void otherQuestions() {
        SAYS.test(19, "Tells the price of a coil after some hours, if nothing else is done.", () -> {
            for (Supplier<CoilPrices> start : someMachines()) {
                CoilPrices x = start.get();
                for (int hours = 1; hours <= 48; hours++) {
                    CoilPrices later = start.get();
                    later.pass(hours);
                    for (int coil = 0; coil < x.value(0); coil++) {
                        Check.due("priceIn(" + coil + ", " + hours + ")", x.priceIn(coil, hours), later.coil(coil, 2));
                    }
                }
                Machines.mustBeSame("behind priceIn", x, start.get());
            }
        });
        SAYS.test(20, "Tells how many customers in a row could buy goods of a coil now, each of whom puts in the same "
                + "coins and leaves if the sale is not possible, without an hour passing.", () -> {
            for (Supplier<CoilPrices> start : someMachines()) {
                CoilPrices x = start.get();
                for (int coins = 0; coins < 100 && x.value(0) > 0; coins++) {
                    Check.due("salesInARow(0, " + coins / 10 + ", " + coins % 10 + ")",
                            x.salesInARow(0, coins / 10, coins % 10), sales(start.get(), coins / 10, coins % 10));
                }
                Machines.mustBeSame("behind salesInARow", x, start.get());
            }
        });
        SAYS.test(21, "Finds the coil with the greatest demand.", () -> {
            CoilPrices x = Machines.loved(0, 1, 2, 3, 4);
            for (int coil : new int[] {3, 1, 1, 4, 2, 2, 2, 0, 4, 4, 4}) {
                x.look(coil);
                int best = x.favorite();
                for (int other = 0; other < 5; other++) {
                    boolean isLess = x.demand(other) < x.demand(best);
                    boolean isSame = x.demand(other) == x.demand(best);
                    Check.due("coil " + best + " before " + other, isLess || isSame && other >= best ? 1 : 0, 1);
                }
            }
        });
    }

    private static int sales(CoilPrices x, int tens, int fifties) {
        int sales = 0;
        try {
            while (sales <= 20) {
                x.buy(0, 0, tens, 0, fifties);
                sales++;
            }
        } catch (IllegalStateException notPossible) {
            return sales;
        }
        return sales;
    }

    private static void textCalls() {
        SAYS.test(22, "Appends a byte to the text.", () -> {
            CoilPrices x = new CoilPrices();
            String order = "f2x17;";
            for (int i = 0; i < order.length(); i++) {
                Check.due("half an order", x.carryOut(), i == 0 ? 0 : -10 - i);
                Check.due("append", x.append(order.charAt(i)), i + 1);
            }
            Check.due("the order", x.carryOut(), 1);
            Machines.tubes(x, 5, 5, 22, 5);
        });
        SAYS.test(23, "Empties the text.", () -> {
            CoilPrices x = few();
            Check.due("clearText", x.clearText(), 3);
            Check.due("no orders", x.carryOut(), 0);
            Machines.write(x, "h2;h1;");
            Check.due("other orders", x.carryOut(), 2);
            Check.due("the hour", x.value(1), 3);
        });
    }

    private static void digest() {
        SAYS.test(26, "Returns a hash of the state. Start with h = 3643 and, for each of the following values v, "
                + "set h = 31 * h + v: the length of the text; value() for 0 to 10; setting() for 0 to 4; tube() for "
                + "0 to 3; for each coil the values of coil() for what = 0 to 9, and Float.floatToIntBits() of its "
                + "demand; for each promise, from the oldest one, its amount; the number of saved states.", () -> {
            CoilPrices x = few();
            long h = 31L * 3643 + 3;
            int[] values = {1, 0, 30 * 10 + 5 * 20 + 11 * 50, 90, 2, 50, 0, 7, 7 * 45, 0, 13};
            int[] settings = {20, 5, 80, 100, 10};
            int[] tubes = {0, 30, 5, 11};
            int[] coil = {1, 13, 45, 45, 90, 0, 7, 7 * 45, 0, 0, Float.floatToIntBits(7.0f)};
            int[] last = {5, 45, 3};
            for (int[] row : new int[][] {values, settings, tubes, coil, last}) {
                for (int v : row) {
                    h = 31 * h + v;
                }
            }
            Check.due("digest", x.digest(), h);
        });
    }
}
