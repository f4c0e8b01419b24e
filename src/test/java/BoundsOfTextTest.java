/** The sentences about the text under 'Terms', each tested with every byte at every place. */
public final class BoundsOfTextTest {
    private static final Sentences SAYS = new Sentences();
    private static final String DIGITS = "0123456789";
    private static final int BYTES = 128;
    /** Stands for an answer that tells no syntax error. */
    private static final int NO_ERROR = -1;
    /** A text that an order can follow, and that can be carried out. */
    private static final String[] BEFORE = {"", "h1;", "h48;h01;"};

    private BoundsOfTextTest() {
    }

    public static void main(String[] args) {
        length();
        orders();
        numbers();
        noOrders();
        errorPositions();
        endOfTheLongestText();
        Check.finish();
    }

    private static void test(String words, Runnable test) {
        SAYS.test(Sentences.TERMS, words, test);
    }

    private static CoilPrices withText(String text) {
        CoilPrices x = new CoilPrices();
        Machines.write(x, text);
        return x;
    }

    /** The syntax error position, or NO_ERROR. */
    private static int error(String text) {
        int answer = withText(text).carryOut();
        return answer <= -10 ? -10 - answer : NO_ERROR;
    }

    private static void errorMustBe(String text, int position) {
        int got = error(text);
        if (got != position) {
            Check.complain("the error of \"" + text + "\" is at " + got + ", due is " + position);
        }
    }

    /**
     * Behind the start, the bytes of next can stand, so that the text ends too early; those of last
     * end an order; with those of out a number is out of its range, whose first digit is at first;
     * all others are errors at other.
     */
    private static void follows(String start, String next, String last, String out, int first, int other) {
        for (int value = 0; value < BYTES; value++) {
            char sign = (char) value;
            int due = next.indexOf(sign) >= 0 ? start.length() + 1
                    : last.indexOf(sign) >= 0 ? NO_ERROR
                    : out.indexOf(sign) >= 0 ? first
                    : other;
            for (String before : BEFORE) {
                errorMustBe(before + start + sign, due == NO_ERROR ? NO_ERROR : before.length() + due);
            }
        }
    }

    /** Behind the start, only these bytes can stand, and the text ends too early behind them. */
    private static void follows(String start, String next) {
        follows(start, next, "", "", 0, start.length());
    }

    private static void length() {
        test("The text has at most 100 bytes.", () -> {
            CoilPrices x = new CoilPrices();
            Check.due("the length at first", x.clearText(), 0);
            for (int i = 1; i <= 100; i++) {
                Check.due("append", x.append(i), i);
            }
            Sentences.refused(Sentences.STATE, () -> withText("h1;".repeat(33) + "h"), "the 101st byte",
                    y -> y.append('1'));
            Check.due("the length at last", x.clearText(), 100);
            Check.due("append behind that", x.append(0), 1);
        });
        test("each terminated by a semicolon", () -> {
            for (String order : new String[] {"s0x1", "s7x20", "b0,1,2,3,4", "f3x30", "h48"}) {
                errorMustBe(order + ";", NO_ERROR);
                errorMustBe(order, order.length());
                errorMustBe(order + "h1;", order.length());
                errorMustBe(order + ";;", order.length() + 1);
            }
        });
    }

    private static void orders() {
        test("\"s\", a coil digit 0 to 7, \"x\" and a number of one or two digits, 1 to 20, to stock so many goods",
                () -> {
                    follows("", "sbfh");
                    follows("s", "01234567");
                    for (int coil = 0; coil <= 7; coil++) {
                        follows("s" + coil, "x");
                        number("s" + coil + "x", 20);
                    }
                });
        test("\"b\", a coil digit 0 to 7, and four digits, each after a comma", () -> {
            follows("b", "01234567");
            for (int coil = 0; coil <= 7; coil++) {
                follows("b" + coil, ",");
            }
            follows("b0,", DIGITS);
            follows("b0,9", ",");
            follows("b0,9,", DIGITS);
            follows("b0,0,9", ",");
            follows("b0,0,9,", DIGITS);
            follows("b0,0,0,9", ",");
            follows("b0,0,0,9,", DIGITS);
            follows("b0,0,0,0,0", "", ";", "", 0, 10);
            follows("b7,9,9,9,9", "", ";", "", 0, 10);
        });
        test("\"f\", a tube digit 0 to 3, \"x\" and a number of one or two digits, 1 to 30", () -> {
            follows("f", "0123");
            for (int tube = 0; tube <= 3; tube++) {
                follows("f" + tube, "x");
                number("f" + tube + "x", 30);
            }
        });
        test("\"h\" and a number of one or two digits, 1 to 48, to let so many hours pass.", () -> number("h", 48));
    }

    /** All numbers of one or two digits behind this start, and every byte behind them. */
    private static void number(String start, int most) {
        int first = start.length();
        follows(start, "123456789", "", "0", first, first);
        follows(start + "0", "123456789", "", "0", first, first);
        for (int ten = 1; ten <= 9; ten++) {
            String inRange = "";
            String outOfRange = "";
            for (int one = 0; one <= 9; one++) {
                if (10 * ten + one <= most) {
                    inRange += one;
                } else {
                    outOfRange += one;
                }
            }
            follows(start + ten, inRange, ";", outOfRange, first, first + 1);
        }
        for (int number = 0; number <= 99; number++) {
            boolean fits = number >= 1 && number <= most;
            String digits = start + number / 10 + number % 10;
            follows(digits, "", fits ? ";" : "", DIGITS, first + 2, fits ? first + 2 : first);
        }
    }

    private static void numbers() {
        test("Numbers can have zeros in front.", () -> {
            for (int number = 1; number <= 9; number++) {
                errorMustBe("h0" + number + ";", NO_ERROR);
                errorMustBe("s0x0" + number + ";", NO_ERROR);
                errorMustBe("f0x0" + number + ";", NO_ERROR);
            }
            errorMustBe("h00;", 1);
            errorMustBe("h001;", 3);
            CoilPrices x = withText("h09;h9;");
            Check.due("two orders", x.carryOut(), 2);
            Check.due("the hour", x.value(1), 18);
        });
    }

    private static void noOrders() {
        test("There are no spaces; there may be no orders.", () -> {
            Check.due("no orders", withText("").carryOut(), 0);
            errorMustBe(" ", 0);
            errorMustBe("h 1;", 1);
            errorMustBe("h1 ;", 2);
            errorMustBe("h1; ", 3);
            errorMustBe("h1;\n", 3);
        });
    }

    private static void errorPositions() {
        test("the index of the first byte that cannot stand where it stands (a digit too many, too)", () -> {
            errorMustBe("h1;x", 3);
            errorMustBe("h1;xx", 3);
            errorMustBe("xh1;x", 0);
            errorMustBe("h123;", 3);
            errorMustBe("h490;", 3);
            errorMustBe("h000;", 3);
            errorMustBe("s00x1;", 2);
            errorMustBe("f00x1;", 2);
            errorMustBe("s0x100;", 5);
            errorMustBe("f0x310;", 5);
            errorMustBe("b0,00,0,0,0;", 4);
            errorMustBe("b0,0,0,0,00;", 10);
            errorMustBe("b0,0,0,0,0,0;", 10);
        });
        test("or the length of the text if the text ends too early.", () -> {
            for (String order : new String[] {"s0x20;", "b0,1,2,3,4;", "f3x12;", "h48;"}) {
                for (String before : BEFORE) {
                    for (int length = 1; length < order.length(); length++) {
                        errorMustBe(before + order.substring(0, length), before.length() + length);
                    }
                    errorMustBe(before + order, NO_ERROR);
                }
            }
        });
        test("For a number that is out of its range it is the index of its first digit", () -> {
            errorMustBe("h0;", 1);
            errorMustBe("h49;", 1);
            errorMustBe("h99;x", 1);
            errorMustBe("h1;s0x0;", 6);
            errorMustBe("h1;s0x21;", 6);
            errorMustBe("f0x0;", 3);
            errorMustBe("f0x31;", 3);
        });
        test("found when a byte that is no digit, whichever it is, or the end of the text, follows it.", () -> {
            for (int value = 0; value < BYTES; value++) {
                boolean isDigit = DIGITS.indexOf((char) value) >= 0;
                errorMustBe("h49" + (char) value, isDigit ? 3 : 1);
                errorMustBe("s0x21" + (char) value, isDigit ? 5 : 3);
                errorMustBe("f0x00" + (char) value, isDigit ? 5 : 3);
            }
            errorMustBe("h0", 1);
            errorMustBe("h00", 1);
            errorMustBe("h49", 1);
            errorMustBe("s0x0", 3);
            errorMustBe("s0x21", 3);
            errorMustBe("f0x31", 3);
        });
    }

    private static void endOfTheLongestText() {
        String most = "h1;".repeat(31);
        test("The text has at most 100 bytes.", () -> {
            CoilPrices x = withText(most + "h1;h01;");
            Check.due("33 orders in 100 bytes", x.carryOut(), 33);
            Check.due("the hour", x.value(1), 33);
            errorMustBe(most + "h1;h01;", NO_ERROR);
            errorMustBe(most + "h1;h1;h", 100);
            errorMustBe(most + "h1;h1;x", 99);
            errorMustBe(most + "h1;;h49", 96);
            errorMustBe(most + "h1;;h1;", 96);
            errorMustBe(most + "h01;h49", 98);
            errorMustBe(most + "h01;h48", 100);
            errorMustBe(most + "h01;h00", 98);
            errorMustBe(most + "s0x100;", 98);
        });
    }
}
