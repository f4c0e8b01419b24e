/** Promises 25 and 26: undo and digest. */
public final class StateTest {
    private static final int[] FIRST_SETTINGS = {20, 5, 50, 100, 10};

    private StateTest() {
    }

    public static void main(String[] args) {
        nothingToUndo();
        fourStates();
        undoOfEachCall();
        failedCallsSaveNothing();
        questionsSaveNothing();
        undoneStatesAreGone();
        digestOfANewMachine();
        digestOfAUsedMachine();
        digestOfDemands();
        Check.finish();
    }

    private static void nothingToUndo() {
        CoilPrices x = new CoilPrices();
        Check.badState(x, "undo", x::undo);
        x.fill(0, 1);
        Check.due("undo", x.undo(), 0);
        Check.badState(x, "undo", x::undo);
    }

    private static void fourStates() {
        CoilPrices x = new CoilPrices();
        for (int i = 0; i < 7; i++) {
            x.pass(1);
        }
        for (int i = 3; i >= 0; i--) {
            Check.due("undo", x.undo(), i);
            Check.due("the hour", x.value(1), 3 + i);
        }
        Check.badState(x, "undo", x::undo);
        Check.due("the hour", x.value(1), 3);
    }

    private static void undoOfEachCall() {
        CoilPrices x = new CoilPrices();
        x.addCoil(1, 45, 90);
        x.addCoil(1, 45, 90);
        x.stock(0, 20);
        x.fill(1, 25);
        x.buy(0, 0, 9, 0, 0);
        x.append('h');
        x.append('5');
        x.append(';');
        undone(x, "set", () -> x.set(4, 5));
        undone(x, "addCoil", () -> x.addCoil(2, 5, 10));
        undone(x, "stock", () -> x.stock(1, 5));
        undone(x, "fill", () -> x.fill(0, 5));
        undone(x, "buy", () -> x.buy(0, 0, 0, 2, 3));
        undone(x, "look", () -> x.look(1));
        undone(x, "pass", () -> x.pass(2));
        undone(x, "emptyBox", x::emptyBox);
        undone(x, "carryOut", x::carryOut);
        Check.due("the text stays", x.clearText(), 3);
    }

    private static void undone(CoilPrices x, String call, Runnable code) {
        while (x.setting(0) != 99) {
            x.set(0, 99);
        }
        long[] before = picture(x);
        code.run();
        x.undo();
        long[] then = picture(x);
        for (int i = 0; i < before.length; i++) {
            Check.due("the state (" + i + ") behind the undone " + call, then[i], before[i]);
        }
    }

    /** All values but the number of saved states. */
    private static long[] picture(CoilPrices x) {
        long[] picture = new long[11 + 5 + 4 + 8 * 11];
        int at = 0;
        for (int what = 0; what < 11; what++) {
            picture[at++] = x.value(what);
        }
        for (int what = 0; what < 5; what++) {
            picture[at++] = x.setting(what);
        }
        for (int tube = 0; tube < 4; tube++) {
            picture[at++] = x.tube(tube);
        }
        for (int coil = 0; coil < x.value(0); coil++) {
            for (int what = 0; what < 10; what++) {
                picture[at++] = x.coil(coil, what);
            }
            picture[at++] = Float.floatToIntBits(x.demand(coil));
        }
        return picture;
    }

    private static void failedCallsSaveNothing() {
        CoilPrices x = new CoilPrices();
        x.addCoil(0, 5, 5);
        Check.badArgument(x, "set", () -> x.set(0, 0));
        Check.badArgument(x, "addCoil", () -> x.addCoil(0, 0, 0));
        Check.badIndex(x, "stock", () -> x.stock(1, 1));
        Check.badIndex(x, "fill", () -> x.fill(4, 1));
        Check.badState(x, "buy", () -> x.buy(0, 1, 0, 0, 0));
        Check.badIndex(x, "look", () -> x.look(1));
        Check.badArgument(x, "pass", () -> x.pass(0));
        x.append('q');
        Check.due("carryOut", x.carryOut(), -10);
        Check.due("one saved state", x.undo(), 0);
        Check.due("no coils", x.value(0), 0);
    }

    private static void questionsSaveNothing() {
        CoilPrices x = new CoilPrices();
        x.addCoil(0, 5, 5);
        x.coil(0, 0);
        x.demand(0);
        x.tube(0);
        x.value(0);
        x.setting(0);
        x.change(100, 0);
        x.mostPayable(100);
        x.coinFor(100);
        x.priceIn(0, 5);
        x.salesInARow(0, 1, 1);
        x.favorite();
        x.append('h');
        x.clearText();
        x.digest();
        Check.due("one saved state", x.undo(), 0);
    }

    private static void undoneStatesAreGone() {
        CoilPrices x = new CoilPrices();
        for (int i = 0; i < 6; i++) {
            x.pass(1);
        }
        x.undo();
        x.undo();
        Check.due("the hour", x.value(1), 4);
        x.pass(10);
        Check.due("undo", x.undo(), 2);
        Check.due("the hour", x.value(1), 4);
        Check.due("undo", x.undo(), 1);
        Check.due("the hour", x.value(1), 3);
        x.pass(20);
        x.pass(20);
        x.pass(20);
        x.pass(20);
        Check.due("undo", x.undo(), 3);
        Check.due("the hour", x.value(1), 63);
        x.undo();
        x.undo();
        Check.due("undo", x.undo(), 0);
        Check.due("the hour", x.value(1), 3);
    }

    private static void digestOfANewMachine() {
        CoilPrices x = new CoilPrices();
        long h = 3643;
        h = 31 * h;
        int[] values = {0, 0, 425, 0, 0, 0, 0, 0, 0, 0, 0};
        for (int v : values) {
            h = 31 * h + v;
        }
        for (int v : FIRST_SETTINGS) {
            h = 31 * h + v;
        }
        for (int tube = 0; tube < 4; tube++) {
            h = 31 * h + 5;
        }
        h = 31 * h;
        Check.due("digest of a new machine", x.digest(), h);
        x.append(65);
        x.clearText();
        Check.due("digest of a new machine", x.digest(), h);
    }

    private static void digestOfAUsedMachine() {
        CoilPrices x = new CoilPrices();
        x.addCoil(1, 45, 90);
        x.addCoil(1, 5, 50);
        x.stock(0, 20);
        for (int i = 0; i < 7; i++) {
            x.buy(0, 0, 0, 0, 1);
        }
        x.buy(0, 0, 2, 1, 1);
        x.look(1);
        x.pass(1);
        x.append(100);
        x.append(100);
        Check.due("two promises at least", x.value(4), 3);
        Check.due("digest", x.digest(), digest(x, 2, 4));
        x.undo();
        Check.due("digest behind undo", x.digest(), digest(x, 2, 3));
    }

    private static long digest(CoilPrices x, int length, int saved) {
        long h = 31 * 3643L + length;
        for (int what = 0; what < 11; what++) {
            h = 31 * h + x.value(what);
        }
        for (int what = 0; what < 5; what++) {
            h = 31 * h + x.setting(what);
        }
        for (int tube = 0; tube < 4; tube++) {
            h = 31 * h + x.tube(tube);
        }
        for (int coil = 0; coil < x.value(0); coil++) {
            for (int what = 0; what < 10; what++) {
                h = 31 * h + x.coil(coil, what);
            }
            h = 31 * h + Float.floatToIntBits(x.demand(coil));
        }
        for (int index = 0; index < x.value(4); index++) {
            h = 31 * h + x.promise(index);
        }
        return 31 * h + saved;
    }

    /** Demands of all sizes, down to those that float can just hold, and to 0. */
    private static void digestOfDemands() {
        for (int fading : new int[] {1, 7, 33, 50, 99, 100, 0}) {
            CoilPrices x = new CoilPrices();
            x.addCoil(0, 5, 5);
            x.set(2, fading);
            for (int i = 0; i < 37; i++) {
                x.look(0);
                Check.due("digest at " + x.demand(0), x.digest(), digest(x, 0, Math.min(4, 3 + i)));
            }
            for (int i = 0; i < 200; i++) {
                x.pass(1);
                Check.due("digest at " + x.demand(0), x.digest(), digest(x, 0, 4));
            }
            Check.due("faded away", x.demand(0) == 0.0f ? 1 : 0, fading <= 50 ? 1 : 0);
        }
    }
}
