/**
 * A vending machine whose coils set their own prices.
 *
 * <p>This class holds the face: it tests the arguments, saves states for undo, and leaves the rest
 * to the classes inside it. All rows are made with the object and used again, because a run has
 * room for few objects; no call makes any, but for the exceptions.
 */
public final class CoilPrices {
    public static final int NONE = -1;

    private static final int MOST_COILS = 8;
    private static final int MOST_KIND = 5;
    private static final int MOST_GOODS = 20;
    private static final int PRICE_STEP = 5;
    private static final int LEAST_PRICE = 5;
    private static final int MOST_PRICE = 500;
    private static final int COIL_FACTS = 10;

    private static final int TUBES = 4;
    private static final int FIFTIES = 3;
    private static final int TUBE_SIZE = 30;
    private static final int FIRST_COINS = 5;
    private static final int MOST_COINS_PUT_IN = 9;
    private static final int[] COIN = {5, 10, 20, 50};

    private static final int SETTINGS = 5;
    private static final int RAISING = 0;
    private static final int FALLING = 1;
    private static final int FADING = 2;
    private static final int LIMIT = 3;
    private static final int FINE = 4;
    private static final int[] FIRST_SETTING = {20, 5, 50, 100, 10};
    private static final int[] LEAST_SETTING = {1, 0, 0, 0, 0};
    private static final int[] MOST_SETTING = {100, 100, 100, 1000, 100};
    private static final int[] SETTING_STEP = {1, 1, 1, 1, 5};

    // Each promise is 5 cents at least, and all of them together never pass the highest limit.
    private static final int MOST_PROMISES = 200;
    private static final int AMOUNT_STEP = 5;
    private static final int MOST_AMOUNT = 2000;
    private static final int PAYABLE_NOW = 4;
    // A promised change and a syntax error position are told as this minus the number.
    private static final int OFFSET = -10;

    private static final int MOST_HOURS = 48;
    private static final int LAST_HOUR = 100000;
    private static final int HOURS_OF_BAN = 3;
    private static final int RAISES_TO_FINE = 2;
    private static final int NUMBERS = 11;

    private static final int LONGEST_TEXT = 100;
    private static final int MOST_BYTE = 127;
    private static final int MOST_SAVED = 4;
    private static final long FIRST_HASH = 3643L;

    private final Machine machine = new Machine();
    private final Machine trial = new Machine();
    private final Machine[] saved = new Machine[MOST_SAVED];
    private int savedCount = 0;
    private final OrderText text = new OrderText();
    private final int[] coinsIn = new int[TUBES];

    public CoilPrices() {
        for (int i = 0; i < MOST_SAVED; i++) {
            saved[i] = new Machine();
        }
    }

    // ---- machine

    public int set(int what, int value) throws IllegalArgumentException {
        if (!isBetween(what, 0, SETTINGS - 1)) {
            throw new IllegalArgumentException("no such setting");
        }
        if (!isStepBetween(value, SETTING_STEP[what], LEAST_SETTING[what], MOST_SETTING[what])) {
            throw new IllegalArgumentException("value out of range");
        }
        save();
        return machine.changeSetting(what, value);
    }

    public int addCoil(int kind, int lowest, int highest)
            throws IllegalArgumentException, IllegalStateException {
        if (!isBetween(kind, 0, MOST_KIND)) {
            throw new IllegalArgumentException("kind out of range");
        }
        if (!isStepBetween(lowest, PRICE_STEP, LEAST_PRICE, MOST_PRICE)) {
            throw new IllegalArgumentException("lowest price out of range");
        }
        if (!isStepBetween(highest, PRICE_STEP, lowest, MOST_PRICE)) {
            throw new IllegalArgumentException("highest price out of range");
        }
        if (!machine.hasRoomForCoil()) {
            throw new IllegalStateException("no room for a coil");
        }
        save();
        return machine.newCoil(kind, lowest, highest);
    }

    public int stock(int coil, int goods)
            throws IndexOutOfBoundsException, IllegalArgumentException, IllegalStateException {
        if (!machine.hasCoil(coil)) {
            throw new IndexOutOfBoundsException("no such coil");
        }
        if (!isBetween(goods, 1, MOST_GOODS)) {
            throw new IllegalArgumentException("goods out of range");
        }
        if (!machine.hasRoomForGoods(coil, goods)) {
            throw new IllegalStateException("too many goods");
        }
        save();
        return machine.addGoods(coil, goods);
    }

    public int fill(int tube, int coins)
            throws IndexOutOfBoundsException, IllegalArgumentException {
        if (!isBetween(tube, 0, TUBES - 1)) {
            throw new IndexOutOfBoundsException("no such tube");
        }
        if (!isBetween(coins, 1, TUBE_SIZE)) {
            throw new IllegalArgumentException("coins out of range");
        }
        save();
        return machine.till.fillTube(tube, coins);
    }

    public int buy(int coil, int fives, int tens, int twenties, int fifties)
            throws IndexOutOfBoundsException, IllegalArgumentException, IllegalStateException {
        if (!machine.hasCoil(coil)) {
            throw new IndexOutOfBoundsException("no such coil");
        }
        if (!holdOut(fives, tens, twenties, fifties)) {
            throw new IllegalArgumentException("coins out of range");
        }
        if (!machine.canSell(coil, coinsIn)) {
            throw new IllegalStateException("the sale is not possible");
        }
        save();
        return machine.sell(coil, coinsIn);
    }

    public int look(int coil) throws IndexOutOfBoundsException {
        if (!machine.hasCoil(coil)) {
            throw new IndexOutOfBoundsException("no such coil");
        }
        save();
        return machine.lookAt(coil);
    }

    public int pass(int hours) throws IllegalArgumentException, IllegalStateException {
        if (!isBetween(hours, 1, MOST_HOURS)) {
            throw new IllegalArgumentException("hours out of range");
        }
        if (!machine.hasTimeFor(hours)) {
            throw new IllegalStateException("the hour would be too great");
        }
        save();
        return machine.passHours(hours);
    }

    public int emptyBox() {
        save();
        return machine.till.takeBox();
    }

    // ---- values

    public int coil(int coil, int what)
            throws IndexOutOfBoundsException, IllegalArgumentException {
        if (!machine.hasCoil(coil)) {
            throw new IndexOutOfBoundsException("no such coil");
        }
        if (!isBetween(what, 0, COIL_FACTS - 1)) {
            throw new IllegalArgumentException("no such value");
        }
        return machine.coils[coil].fact(what);
    }

    public float demand(int coil) throws IndexOutOfBoundsException {
        if (!machine.hasCoil(coil)) {
            throw new IndexOutOfBoundsException("no such coil");
        }
        return machine.coils[coil].wanted;
    }

    public int tube(int tube) throws IndexOutOfBoundsException {
        if (!isBetween(tube, 0, TUBES - 1)) {
            throw new IndexOutOfBoundsException("no such tube");
        }
        return machine.till.tubes[tube];
    }

    public int value(int what) throws IllegalArgumentException {
        if (!isBetween(what, 0, NUMBERS - 1)) {
            throw new IllegalArgumentException("no such value");
        }
        return machine.number(what);
    }

    public int setting(int what) throws IllegalArgumentException {
        if (!isBetween(what, 0, SETTINGS - 1)) {
            throw new IllegalArgumentException("no such setting");
        }
        return machine.settings[what];
    }

    public int promise(int index) throws IndexOutOfBoundsException {
        if (!isBetween(index, 0, machine.till.promiseCount - 1)) {
            throw new IndexOutOfBoundsException("no such promise");
        }
        return machine.till.promises[index];
    }

    // ---- what if

    public int change(int amount, int tube)
            throws IllegalArgumentException, IndexOutOfBoundsException {
        if (!isBetween(amount, 0, MOST_AMOUNT)) {
            throw new IllegalArgumentException("amount out of range");
        }
        if (!isBetween(tube, 0, TUBES - 1)) {
            throw new IndexOutOfBoundsException("no such tube");
        }
        return machine.till.canPay(amount) ? machine.till.payment.taken[tube] : NONE;
    }

    public int mostPayable(int bound) throws IllegalArgumentException {
        if (!isBetween(bound, 0, MOST_AMOUNT)) {
            throw new IllegalArgumentException("bound out of range");
        }
        int amount = bound - bound % AMOUNT_STEP;
        while (amount > 0 && !machine.till.canPay(amount)) {
            amount -= AMOUNT_STEP;
        }
        return amount;
    }

    public int coinFor(int amount) throws IllegalArgumentException {
        if (!isBetween(amount, 0, MOST_AMOUNT)) {
            throw new IllegalArgumentException("amount out of range");
        }
        if (machine.till.canPay(amount)) {
            return PAYABLE_NOW;
        }
        for (int tube = 0; tube < TUBES; tube++) {
            if (machine.till.canPayWithCoin(amount, tube)) {
                return tube;
            }
        }
        return NONE;
    }

    public int priceIn(int coil, int hours)
            throws IndexOutOfBoundsException, IllegalArgumentException {
        if (!machine.hasCoil(coil)) {
            throw new IndexOutOfBoundsException("no such coil");
        }
        if (!isBetween(hours, 0, MOST_HOURS)) {
            throw new IllegalArgumentException("hours out of range");
        }
        trial.takeOver(machine);
        trial.passHours(hours);
        return trial.coils[coil].price;
    }

    public int salesInARow(int coil, int tens, int fifties)
            throws IndexOutOfBoundsException, IllegalArgumentException {
        if (!machine.hasCoil(coil)) {
            throw new IndexOutOfBoundsException("no such coil");
        }
        if (!holdOut(0, tens, 0, fifties)) {
            throw new IllegalArgumentException("coins out of range");
        }
        trial.takeOver(machine);
        int sales = 0;
        while (sales < MOST_GOODS && trial.canSell(coil, coinsIn)) {
            trial.sell(coil, coinsIn);
            sales++;
        }
        return sales;
    }

    public int favorite() {
        int best = NONE;
        float greatest = -1.0f;
        for (int coil = 0; coil < machine.coilCount; coil++) {
            if (machine.coils[coil].wanted > greatest) {
                greatest = machine.coils[coil].wanted;
                best = coil;
            }
        }
        return best;
    }

    // ---- text

    public int append(int value) throws IllegalArgumentException, IllegalStateException {
        if (!isBetween(value, 0, MOST_BYTE)) {
            throw new IllegalArgumentException("no such byte");
        }
        if (text.length >= LONGEST_TEXT) {
            throw new IllegalStateException("the text is full");
        }
        return text.addByte(value);
    }

    public int clearText() {
        int length = text.length;
        text.length = 0;
        return length;
    }

    public int carryOut() {
        int error = text.errorPosition();
        if (error != NONE) {
            return OFFSET - error;
        }
        save();
        text.startReading();
        int carriedOut = 0;
        while (carriedOut < LONGEST_TEXT && text.readOrder() && obey()) {
            carriedOut++;
        }
        return carriedOut;
    }

    // ---- state

    public int undo() throws IllegalStateException {
        if (savedCount < 1) {
            throw new IllegalStateException("no saved state");
        }
        savedCount--;
        machine.takeOver(saved[savedCount]);
        return savedCount;
    }

    public long digest() {
        long hash = 31L * FIRST_HASH + text.length;
        for (int what = 0; what < NUMBERS; what++) {
            hash = 31L * hash + machine.number(what);
        }
        for (int what = 0; what < SETTINGS; what++) {
            hash = 31L * hash + machine.settings[what];
        }
        for (int tube = 0; tube < TUBES; tube++) {
            hash = 31L * hash + machine.till.tubes[tube];
        }
        for (int coil = 0; coil < machine.coilCount; coil++) {
            for (int what = 0; what < COIL_FACTS; what++) {
                hash = 31L * hash + machine.coils[coil].fact(what);
            }
            hash = 31L * hash + bitsOf(machine.coils[coil].wanted);
        }
        for (int index = 0; index < machine.till.promiseCount; index++) {
            hash = 31L * hash + machine.till.promises[index];
        }
        return 31L * hash + savedCount;
    }

    // ---- helpers

    private static boolean isBetween(int number, int least, int most) {
        return number >= least && number <= most;
    }

    private static boolean isStepBetween(int number, int step, int least, int most) {
        return isBetween(number, least, most) && step > 0 && number % step == 0;
    }

    /** Gets the coins of a customer ready; false if one of the numbers is out of range. */
    private boolean holdOut(int fives, int tens, int twenties, int fifties) {
        coinsIn[0] = fives;
        coinsIn[1] = tens;
        coinsIn[2] = twenties;
        coinsIn[FIFTIES] = fifties;
        for (int tube = 0; tube < TUBES; tube++) {
            if (!isBetween(coinsIn[tube], 0, MOST_COINS_PUT_IN)) {
                return false;
            }
        }
        return true;
    }

    private void save() {
        if (savedCount >= MOST_SAVED) {
            dropOldest();
        }
        saved[savedCount].takeOver(machine);
        savedCount++;
    }

    private void dropOldest() {
        Machine oldest = saved[0];
        for (int i = 1; i < MOST_SAVED; i++) {
            saved[i - 1] = saved[i];
        }
        saved[MOST_SAVED - 1] = oldest;
        savedCount = MOST_SAVED - 1;
    }

    /** Carries out the order that was read last; false if its call would throw. */
    private boolean obey() {
        int place = text.place;
        int number = text.number;
        switch (text.letter) {
            case 's':
                if (!machine.hasCoil(place) || !machine.hasRoomForGoods(place, number)) {
                    return false;
                }
                machine.addGoods(place, number);
                return true;
            case 'b':
                if (!machine.hasCoil(place) || !machine.canSell(place, text.coins)) {
                    return false;
                }
                machine.sell(place, text.coins);
                return true;
            case 'f':
                machine.till.fillTube(place, number);
                return true;
            case 'h':
                if (!machine.hasTimeFor(number)) {
                    return false;
                }
                machine.passHours(number);
                return true;
            default:
                return false;
        }
    }

    /**
     * The bits of a number that is not below zero, found by arithmetic, since LANGUAGE.md leaves no
     * library function for it. Halving and doubling are exact; a number that is still below 1 at
     * the exponent -126 is one without a leading bit, and its exponent counts as none.
     */
    private static int bitsOf(float number) {
        float scaled = number;
        int exponent = 0;
        while (scaled >= 2.0f && exponent < 127) {
            scaled = scaled / 2.0f;
            exponent++;
        }
        while (scaled < 1.0f && exponent > -126) {
            scaled = scaled * 2.0f;
            exponent--;
        }
        return ((exponent + 126) << 23) + (int) (scaled * 8388608.0f);
    }

    private static int worth(int[] coins) {
        int sum = 0;
        for (int tube = 0; tube < TUBES && tube < coins.length; tube++) {
            sum += coins[tube] * COIN[tube];
        }
        return sum;
    }

    /** All that undo restores. */
    private static final class Machine {
        final Coil[] coils = new Coil[MOST_COILS];
        final int[] settings = new int[SETTINGS];
        final Till till = new Till();
        int coilCount = 0;
        int hour = 0;
        int fines = 0;

        Machine() {
            for (int coil = 0; coil < MOST_COILS; coil++) {
                coils[coil] = new Coil();
            }
            for (int what = 0; what < SETTINGS; what++) {
                settings[what] = FIRST_SETTING[what];
            }
        }

        void takeOver(Machine other) {
            for (int coil = 0; coil < other.coilCount; coil++) {
                coils[coil].takeOver(other.coils[coil]);
            }
            System.arraycopy(other.settings, 0, settings, 0, SETTINGS);
            till.takeOver(other.till);
            coilCount = other.coilCount;
            hour = other.hour;
            fines = other.fines;
        }

        int changeSetting(int what, int value) {
            int previous = settings[what];
            settings[what] = value;
            return previous;
        }

        boolean hasCoil(int coil) {
            return coil >= 0 && coil < coilCount;
        }

        boolean hasRoomForCoil() {
            return coilCount < MOST_COILS;
        }

        int newCoil(int kind, int lowest, int highest) {
            coils[coilCount].begin(kind, lowest, highest);
            coilCount++;
            return coilCount - 1;
        }

        boolean hasRoomForGoods(int coil, int goods) {
            return coils[coil].goods + goods <= MOST_GOODS;
        }

        int addGoods(int coil, int goods) {
            coils[coil].goods += goods;
            return coils[coil].goods;
        }

        int lookAt(int coil) {
            coils[coil].wanted = coils[coil].wanted + 0.5f;
            return coils[coil].price;
        }

        boolean canSell(int coil, int[] coinsIn) {
            int back = worth(coinsIn) - coils[coil].price;
            if (coils[coil].goods < 1 || back < 0) {
                return false;
            }
            return till.canPayAfter(coinsIn, back)
                    || till.promiseSum + back <= settings[LIMIT];
        }

        /** Makes a sale that is possible; answers as buy does. */
        int sell(int coil, int[] coinsIn) {
            int back = worth(coinsIn) - coils[coil].price;
            coils[coil].noteSale();
            till.takeIn(coinsIn);
            boolean paid = till.canPay(back);
            if (paid) {
                till.payOut();
            } else {
                till.addPromise(back);
            }
            till.payPromises();
            return paid ? back : OFFSET - back;
        }

        boolean hasTimeFor(int hours) {
            return hour + hours <= LAST_HOUR;
        }

        /** Answers how many times two coils were fined in these hours. */
        int passHours(int hours) {
            int finesBefore = fines;
            for (int i = 0; i < hours; i++) {
                passHour();
            }
            return fines - finesBefore;
        }

        private void passHour() {
            for (int coil = 0; coil < coilCount; coil++) {
                coils[coil].setPrice(settings[RAISING], settings[FALLING]);
            }
            for (int coil = 0; coil < coilCount; coil++) {
                coils[coil].shortenBan();
            }
            for (int coil = 0; coil + 1 < coilCount; coil++) {
                watch(coils[coil], coils[coil + 1]);
            }
            for (int coil = 0; coil < coilCount; coil++) {
                coils[coil].fade(settings[FADING]);
            }
            hour++;
        }

        /** Counts the common raises of two neighbors, and fines them. */
        private void watch(Coil coil, Coil next) {
            if (coil.kind != next.kind) {
                return;
            }
            coil.commonRaises = coil.hasRaised && next.hasRaised ? coil.commonRaises + 1 : 0;
            if (coil.commonRaises == RAISES_TO_FINE) {
                coil.payFine(settings[FINE]);
                next.payFine(settings[FINE]);
                coil.commonRaises = 0;
                fines++;
            }
        }

        /** Answers as value does. */
        int number(int what) {
            switch (what) {
                case 0:
                    return coilCount;
                case 1:
                    return hour;
                case 2:
                    return worth(till.tubes);
                case 3:
                    return till.box;
                case 4:
                    return till.promiseCount;
                case 5:
                    return till.promiseSum;
                case 6:
                    return till.promisesPaid;
                case 7:
                    return sumOfFacts(Coil.SALES);
                case 8:
                    return sumOfFacts(Coil.TAKINGS);
                case 9:
                    return fines;
                default:
                    return sumOfFacts(Coil.GOODS);
            }
        }

        private int sumOfFacts(int what) {
            int sum = 0;
            for (int coil = 0; coil < coilCount; coil++) {
                sum += coils[coil].fact(what);
            }
            return sum;
        }
    }

    /** One coil, and what it has in common with the next one. */
    private static final class Coil {
        static final int GOODS = 1;
        static final int SALES = 6;
        static final int TAKINGS = 7;

        int kind = 0;
        int goods = 0;
        int price = 0;
        int lowest = 0;
        int highest = 0;
        int banned = 0;
        int sales = 0;
        int takings = 0;
        int raises = 0;
        int commonRaises = 0;
        float wanted = 0.0f;
        boolean hasRaised = false;

        void begin(int newKind, int newLowest, int newHighest) {
            kind = newKind;
            goods = 0;
            price = newLowest;
            lowest = newLowest;
            highest = newHighest;
            banned = 0;
            sales = 0;
            takings = 0;
            raises = 0;
            commonRaises = 0;
            wanted = 0.0f;
            hasRaised = false;
        }

        void takeOver(Coil other) {
            kind = other.kind;
            goods = other.goods;
            price = other.price;
            lowest = other.lowest;
            highest = other.highest;
            banned = other.banned;
            sales = other.sales;
            takings = other.takings;
            raises = other.raises;
            commonRaises = other.commonRaises;
            wanted = other.wanted;
            hasRaised = other.hasRaised;
        }

        void noteSale() {
            goods--;
            wanted = wanted + 1.0f;
            sales++;
            takings += price;
        }

        void setPrice(int raising, int falling) {
            float tenths = 10.0f * wanted;
            hasRaised = tenths >= (float) raising && banned == 0 && price < highest;
            if (hasRaised) {
                price += PRICE_STEP;
                raises++;
            } else if (tenths < (float) falling && price > lowest) {
                price -= PRICE_STEP;
            }
        }

        void shortenBan() {
            if (banned > 0) {
                banned--;
            }
        }

        void payFine(int fine) {
            price = Math.max(lowest, price - fine);
            banned = HOURS_OF_BAN;
        }

        void fade(int fading) {
            wanted = wanted * (float) fading / 100.0f;
        }

        /** Answers as coil does. */
        int fact(int what) {
            switch (what) {
                case 0:
                    return kind;
                case GOODS:
                    return goods;
                case 2:
                    return price;
                case 3:
                    return lowest;
                case 4:
                    return highest;
                case 5:
                    return banned;
                case SALES:
                    return sales;
                case TAKINGS:
                    return takings;
                case 8:
                    return raises;
                default:
                    return commonRaises;
            }
        }
    }

    /** The tubes, the box, and the promises that are paid from the tubes. */
    private static final class Till {
        final int[] tubes = new int[TUBES];
        final int[] promises = new int[MOST_PROMISES];
        final Payment payment = new Payment();
        int box = 0;
        int promiseCount = 0;
        int promiseSum = 0;
        int promisesPaid = 0;

        Till() {
            for (int tube = 0; tube < TUBES; tube++) {
                tubes[tube] = FIRST_COINS;
            }
        }

        void takeOver(Till other) {
            System.arraycopy(other.tubes, 0, tubes, 0, TUBES);
            System.arraycopy(other.promises, 0, promises, 0, MOST_PROMISES);
            box = other.box;
            promiseCount = other.promiseCount;
            promiseSum = other.promiseSum;
            promisesPaid = other.promisesPaid;
        }

        /** Answers the coins that were taken. */
        int fillTube(int tube, int coins) {
            int fitting = Math.min(coins, TUBE_SIZE - tubes[tube]);
            tubes[tube] += fitting;
            payPromises();
            return fitting;
        }

        void takeIn(int[] coinsIn) {
            for (int tube = 0; tube < TUBES && tube < coinsIn.length; tube++) {
                int fitting = Math.min(coinsIn[tube], TUBE_SIZE - tubes[tube]);
                tubes[tube] += fitting;
                box += (coinsIn[tube] - fitting) * COIN[tube];
            }
        }

        int takeBox() {
            int money = box;
            box = 0;
            return money;
        }

        boolean canPay(int amount) {
            System.arraycopy(tubes, 0, payment.held, 0, TUBES);
            return payment.find(amount);
        }

        /** Whether an amount could be paid with one coin more, for which there need be no room. */
        boolean canPayWithCoin(int amount, int tube) {
            System.arraycopy(tubes, 0, payment.held, 0, TUBES);
            payment.held[tube]++;
            return payment.find(amount);
        }

        /** Whether an amount could be paid if these coins were put in before. */
        boolean canPayAfter(int[] coinsIn, int amount) {
            for (int tube = 0; tube < TUBES && tube < coinsIn.length; tube++) {
                payment.held[tube] = Math.min(TUBE_SIZE, tubes[tube] + coinsIn[tube]);
            }
            return payment.find(amount);
        }

        /** Takes the coins out that canPay has found. */
        void payOut() {
            for (int tube = 0; tube < TUBES; tube++) {
                tubes[tube] -= payment.taken[tube];
            }
        }

        void addPromise(int amount) {
            if (promiseCount < MOST_PROMISES) {
                promises[promiseCount] = amount;
                promiseCount++;
                promiseSum += amount;
            }
        }

        void payPromises() {
            int paid = 0;
            while (paid < promiseCount && paid < MOST_PROMISES && canPay(promises[paid])) {
                payOut();
                promiseSum -= promises[paid];
                promisesPaid += promises[paid];
                paid++;
            }
            if (paid > 0) {
                System.arraycopy(promises, paid, promises, 0, promiseCount - paid);
                promiseCount -= paid;
            }
        }
    }

    /** Finds the coins by which an amount is paid. */
    private static final class Payment {
        final int[] held = new int[TUBES];
        final int[] taken = new int[TUBES];

        /**
         * Finds the fewest coins. Only two numbers of fifties need be tried: where two more would
         * fit, smaller coins worth 100 or more are taken, and among these some are worth just 100
         * (each smaller coin divides the next one, and 20 divides 100), so two fifties in their
         * place are better. For the same reason the smaller coins are best taken greatest first.
         */
        boolean find(int amount) {
            int fifties = Math.min(held[FIFTIES], amount / COIN[FIFTIES]);
            int withOneLess = take(amount, fifties - 1);
            int withMost = take(amount, fifties);
            if (withOneLess != NONE && (withMost == NONE || withOneLess < withMost)) {
                take(amount, fifties - 1);
                return true;
            }
            return withMost != NONE;
        }

        /** Answers the number of coins; NONE if the amount cannot be paid with so many fifties. */
        private int take(int amount, int fifties) {
            if (fifties < 0) {
                return NONE;
            }
            int rest = amount - fifties * COIN[FIFTIES];
            int count = fifties;
            taken[FIFTIES] = fifties;
            for (int tube = FIFTIES - 1; tube >= 0; tube--) {
                taken[tube] = Math.min(held[tube], rest / COIN[tube]);
                rest -= taken[tube] * COIN[tube];
                count += taken[tube];
            }
            return rest == 0 ? count : NONE;
        }
    }

    /** The text, and a reader that reads one order of it after the other. */
    private static final class OrderText {
        final int[] bytes = new int[LONGEST_TEXT];
        int length = 0;

        int letter = 0;
        int place = 0;
        int number = 0;
        final int[] coins = new int[TUBES];

        private int at = 0;
        private int error = NONE;

        /** There must be room for the byte. */
        int addByte(int value) {
            if (length < LONGEST_TEXT) {
                bytes[length] = value;
                length++;
            }
            return length;
        }

        /** The syntax error position; NONE if there is no syntax error. */
        int errorPosition() {
            startReading();
            int orders = 0;
            while (orders < LONGEST_TEXT && readOrder()) {
                orders++;
            }
            return error;
        }

        void startReading() {
            at = 0;
            error = NONE;
        }

        /** Reads the next order; false if there is none, or a syntax error in it. */
        boolean readOrder() {
            if (at >= length || error != NONE) {
                return false;
            }
            letter = byteAt(at);
            switch (letter) {
                case 's':
                    at++;
                    place = readDigit(MOST_COILS - 1);
                    readSign('x');
                    number = readNumber(MOST_GOODS);
                    break;
                case 'b':
                    at++;
                    place = readDigit(MOST_COILS - 1);
                    readCoins();
                    break;
                case 'f':
                    at++;
                    place = readDigit(TUBES - 1);
                    readSign('x');
                    number = readNumber(TUBE_SIZE);
                    break;
                case 'h':
                    at++;
                    number = readNumber(MOST_HOURS);
                    break;
                default:
                    error = at;
                    break;
            }
            readSign(';');
            return error == NONE;
        }

        private void readCoins() {
            for (int tube = 0; tube < TUBES; tube++) {
                readSign(',');
                coins[tube] = readDigit(MOST_COINS_PUT_IN);
            }
        }

        /** A third digit is left for the sign behind the number to stumble over. */
        private int readNumber(int most) {
            int first = at;
            int read = readDigit(9);
            if (isDigit(byteAt(at))) {
                read = 10 * read + readDigit(9);
            }
            if (error == NONE && !isDigit(byteAt(at)) && (read < 1 || read > most)) {
                error = first;
            }
            return read;
        }

        private int readDigit(int most) {
            int sign = byteAt(at);
            if (error != NONE || sign < '0' || sign > '0' + most) {
                stumble();
                return 0;
            }
            at++;
            return sign - '0';
        }

        private void readSign(int sign) {
            if (error != NONE || byteAt(at) != sign) {
                stumble();
            } else {
                at++;
            }
        }

        /** Only the first error counts. */
        private void stumble() {
            if (error == NONE) {
                error = at;
            }
        }

        private int byteAt(int index) {
            return index >= 0 && index < length && index < LONGEST_TEXT ? bytes[index] : NONE;
        }

        private static boolean isDigit(int sign) {
            return sign >= '0' && sign <= '9';
        }
    }
}
