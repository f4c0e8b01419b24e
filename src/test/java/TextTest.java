/** Promises 22 to 24: the text and its orders. */
public final class TextTest {
    private TextTest() {
    }

    public static void main(String[] args) {
        append();
        clearText();
        textsThatCanStand();
        syntaxErrors();
        numbersOutOfRange();
        syntaxErrorChangesNothing();
        ordersAreCarriedOut();
        stopsAtWrongCoil();
        stopsAtFullCoil();
        stopsAtImpossibleSale();
        stopsAtNothing();
        longestText();
        carryOutIsUndone();
        Check.finish();
    }

    private static void append() {
        CoilPrices x = new CoilPrices();
        Check.badArgument(x, "append(-1)", () -> x.append(-1));
        Check.badArgument(x, "append(128)", () -> x.append(128));
        Check.badArgument(x, "append(least)", () -> x.append(Integer.MIN_VALUE));
        Check.badArgument(x, "append(most)", () -> x.append(Integer.MAX_VALUE));
        for (int i = 1; i <= 100; i++) {
            Check.due("append", x.append(i % 2 == 0 ? 127 : 0), i);
        }
        Check.badState(x, "the 101st byte", () -> x.append(0));
        Check.badArgument(x, "a wrong 101st byte", () -> x.append(128));
        Check.badState(x, "append is not undoable", x::undo);
    }

    private static void clearText() {
        CoilPrices x = new CoilPrices();
        Check.due("clear the empty text", x.clearText(), 0);
        Machines.write(x, "h1;h2;");
        Check.due("clear six bytes", x.clearText(), 6);
        Check.due("clear again", x.clearText(), 0);
        Check.due("append then", x.append('h'), 1);
        Check.due("the text is new", x.carryOut(), -11);
        Check.badState(x, "clearText is not undoable", x::undo);
        for (int i = 0; i < 99; i++) {
            x.append('h');
        }
        Check.due("clear 100 bytes", x.clearText(), 100);
        Check.due("append then", x.append(0), 1);
    }

    private static void textsThatCanStand() {
        carried("", 0);
        carried("h1;", 1);
        carried("h01;", 1);
        carried("h48;", 1);
        carried("h9;h09;h10;", 3);
        carried("s0x1;", 1);
        carried("s0x01;s0x19;", 2);
        carried("s1x20;", 1);
        carried("f0x1;f1x30;f2x07;f3x7;", 4);
        carried("s0x1;b0,0,0,0,1;", 2);
        carried("s0x1;b0,9,9,9,9;", 2);
        carried("s0x1;b0,0,0,0,0;", 1);
    }

    private static void syntaxErrors() {
        error("x", 0);
        error(";", 0);
        error(" h1;", 0);
        error("S0x1;", 0);
        error("\u0000", 0);
        error("\u007f", 0);
        error("s", 1);
        error("s8x1;", 1);
        error("sx1;", 1);
        error("s/", 1);
        error("s:", 1);
        error("s0", 2);
        error("s00x1;", 2);
        error("s0;", 2);
        error("s0x", 3);
        error("s0x;", 3);
        error("s0x-1;", 3);
        error("s0x1", 4);
        error("s0x20", 5);
        error("s0x1,", 4);
        error("s0x1 ;", 4);
        error("s0x010;", 5);
        error("b", 1);
        error("b8,0,0,0,0;", 1);
        error("b0", 2);
        error("b0;", 2);
        error("b0,", 3);
        error("b0,;", 3);
        error("b0,0,0,0;", 8);
        error("b0,0,0,0,", 9);
        error("b0,0,0,0,0", 10);
        error("b0,0,0,0,0,0;", 10);
        error("b0,10,0,0,0;", 4);
        error("b0,0,0,0,00;", 10);
        error("b0,a,0,0,0;", 3);
        error("f4x1;", 1);
        error("f0", 2);
        error("f0y1;", 2);
        error("f0x", 3);
        error("f0x1", 4);
        error("h", 1);
        error("h;", 1);
        error("h:;", 1);
        error("h/;", 1);
        error("s0x:;", 3);
        error("b0,:,0,0,0;", 3);
        error("b0,/,0,0,0;", 3);
        error("h1", 2);
        error("h1h2;", 2);
        error("h1;h", 4);
        error("h1;h2", 5);
        error("h1;;", 3);
        error("h1;s0x1;q", 8);
        error("h1;\nh1;", 3);
        error("h1:", 2);
        error("h1/", 2);
    }

    private static void numbersOutOfRange() {
        error("h0;", 1);
        error("h00;", 1);
        error("h0", 1);
        error("h00", 1);
        error("h0x", 1);
        error("h49;", 1);
        error("h99", 1);
        error("h49x", 1);
        error("h480;", 3);
        error("h999", 3);
        error("h000;", 3);
        error("h4/", 2);
        error("h49/", 1);
        error("h49:", 1);
        error("s0x0;", 3);
        error("s0x21;", 3);
        error("s0x00", 3);
        error("s7x99,", 3);
        error("s7x210", 5);
        error("f0x0;", 3);
        error("f0x31;", 3);
        error("f3x31", 3);
        error("h1;f3x40;x", 6);
        error("h1;h50;h", 4);
    }

    private static void syntaxErrorChangesNothing() {
        CoilPrices x = machine();
        x.fill(0, 1);
        Machines.write(x, "h1;s0x1;f0x1;h");
        long before = x.digest();
        Check.due("carryOut", x.carryOut(), -10 - 14);
        Check.due("the digest", x.digest(), before);
        Check.due("the hour", x.value(1), 0);
    }

    private static void ordersAreCarriedOut() {
        CoilPrices x = machine();
        Machines.write(x, "s0x02;s1x20;f3x3;b0,1,2,3,4;h12;h1;");
        Check.due("carryOut", x.carryOut(), 6);
        Check.due("goods 0", x.coil(0, 1), 1);
        Check.due("goods 1", x.coil(1, 1), 20);
        int[] tubes = {5, 7, 8, 7};
        for (int tube = 0; tube < 4; tube++) {
            Check.due("tube " + tube, x.tube(tube), tubes[tube]);
        }
        Check.due("the hour", x.value(1), 13);
        Check.due("the sales", x.value(7), 1);
        Check.due("their prices", x.value(8), 30);
        Check.due("the length of the text", x.clearText(), 35);
        CoilPrices y = machine();
        y.stock(0, 2);
        y.stock(1, 20);
        y.fill(3, 3);
        y.buy(0, 1, 2, 3, 4);
        y.pass(12);
        y.pass(1);
        x.undo();
        Check.due("carryOut saves one state", x.value(1), 0);
        Machines.write(x, "s0x2;s1x20;f3x3;b0,1,2,3,4;h12;h1;");
        Check.due("carryOut again", x.carryOut(), 6);
        for (int i = 0; i < 11; i++) {
            Check.due("value " + i, x.value(i), y.value(i));
        }
        Check.due("demand", x.demand(0), y.demand(0));
    }

    private static void stopsAtWrongCoil() {
        for (String wrong : new String[] {"s2x1;", "b2,9,9,9,9;", "s7x1;", "b7,1,1,1,1;"}) {
            CoilPrices x = machine();
            Machines.write(x, "s0x3;" + wrong + "s1x4;");
            Check.due("carryOut up to " + wrong, x.carryOut(), 1);
            Check.due("goods 0", x.coil(0, 1), 3);
            Check.due("goods 1", x.coil(1, 1), 0);
        }
    }

    private static void stopsAtFullCoil() {
        CoilPrices x = machine();
        Machines.write(x, "s0x20;s1x1;s0x1;h1;");
        Check.due("carryOut", x.carryOut(), 2);
        Check.due("the hour", x.value(1), 0);
        Check.due("carryOut again", x.carryOut(), 0);
        Check.due("goods", x.value(10), 21);
        Check.due("a saved state without orders", x.undo(), 2 + 1);
        Check.due("a saved state with two", x.undo(), 2);
        Check.due("goods", x.value(10), 0);
    }

    private static void stopsAtImpossibleSale() {
        CoilPrices x = machine();
        Machines.write(x, "b0,0,0,0,1;");
        Check.due("nothing to sell", x.carryOut(), 0);
        x.clearText();
        Machines.write(x, "s0x5;b0,0,0,0,1;b0,1,0,1,0;b0,0,0,0,1;");
        Check.due("too little", x.carryOut(), 2);
        Check.due("goods", x.coil(0, 1), 4);
        x.clearText();
        x.set(3, 0);
        Machines.write(x, "b1,0,0,0,1;s1x9;b1,0,0,0,1;");
        Check.due("nothing to sell", x.carryOut(), 0);
        x.clearText();
        Machines.write(x, "s1x9;b1,0,0,0,1;b1,0,0,0,1;b1,0,0,0,1;b1,0,0,0,1;b1,0,0,0,1;b1,0,0,0,1;");
        Check.due("beyond the limit", x.carryOut(), 6);
        Check.due("goods", x.coil(1, 1), 4);
        x.undo();
        x.set(3, 100);
        Check.due("a promise in a text", x.carryOut(), 7);
        Check.due("the promise", x.promise(0), 5);
        x.clearText();
        Machines.write(x, "f0x1;");
        Check.due("paid by a text", x.carryOut(), 1);
        Check.due("paid by a text", x.value(6), 5);
    }

    private static void stopsAtNothing() {
        CoilPrices x = machine();
        Check.due("no orders", x.carryOut(), 0);
        Check.due("the saved state", x.undo(), 2);
    }

    private static void longestText() {
        CoilPrices x = machine();
        for (int i = 0; i < 33; i++) {
            Machines.write(x, "h1;");
        }
        Check.due("33 orders", x.carryOut(), 33);
        x.append('h');
        Check.due("100 bytes", x.carryOut(), -110);
        Check.badState(x, "the 101st byte", () -> x.append('1'));
        Check.due("the hour", x.value(1), 33);
    }

    private static void carryOutIsUndone() {
        CoilPrices x = machine();
        Machines.write(x, "h1;h1;h1;");
        x.carryOut();
        x.clearText();
        Machines.write(x, "h2;");
        x.carryOut();
        Check.due("the hour", x.value(1), 5);
        Check.due("undo", x.undo(), 3);
        Check.due("the hour", x.value(1), 3);
        Check.due("the text stays", x.carryOut(), 1);
        Check.due("the hour", x.value(1), 5);
        x.undo();
        x.undo();
        Check.due("the hour", x.value(1), 0);
        Check.due("the text stays", x.clearText(), 3);
    }

    private static void carried(String text, int due) {
        CoilPrices x = machine();
        Machines.write(x, text);
        Check.due("carryOut of \"" + text + "\"", x.carryOut(), due);
        Check.due("clearText of \"" + text + "\"", x.clearText(), text.length());
    }

    private static void error(String text, int position) {
        CoilPrices x = machine();
        Machines.write(x, text);
        long before = x.digest();
        Check.due("carryOut of \"" + text + "\"", x.carryOut(), -10 - position);
        Check.due("the digest", x.digest(), before);
    }

    /** Two coils without goods. */
    private static CoilPrices machine() {
        CoilPrices x = new CoilPrices();
        x.addCoil(0, 30, 60);
        x.addCoil(1, 45, 60);
        return x;
    }
}
