import java.util.ArrayDeque;
import java.util.ArrayList;
import java.util.Deque;
import java.util.List;
import java.util.regex.Matcher;
import java.util.regex.Pattern;

/**
 * The document once more, written as differently from the program as may be: a state is copied
 * before each call, change is found by trying all ways, and the text is read by patterns.
 */
final class PlainMachine {
    /** What a call answers that the document forbids. */
    static final class Refusal extends RuntimeException {
        private static final long serialVersionUID = 1L;
        final Class<?> due;

        Refusal(Class<?> due) {
            super(null, null, false, false);
            this.due = due;
        }
    }

    private static final Pattern ORDER =
            Pattern.compile("s[0-7]x[0-9]{1,2};|b[0-7](,[0-9]){4};|f[0-3]x[0-9]{1,2};|h[0-9]{1,2};");
    private static final Pattern ORDERS = Pattern.compile("(" + ORDER.pattern() + ")*");
    private static final Pattern NUMBER = Pattern.compile("(?<=(s[0-7]x|f[0-3]x|h))[0-9]+");
    private static final int[] WORTH = {5, 10, 20, 50};

    private static final class Slot {
        int[] facts = new int[10];
        float demand;

        Slot copy() {
            Slot slot = new Slot();
            slot.facts = facts.clone();
            slot.demand = demand;
            return slot;
        }
    }

    private static final class State {
        List<Slot> slots = new ArrayList<>();
        int[] tubes = {5, 5, 5, 5};
        int[] settings = {20, 5, 50, 100, 10};
        List<Integer> promises = new ArrayList<>();
        int box;
        int hour;
        int paidLater;
        int sales;
        int takings;
        int fines;

        State copy() {
            State state = new State();
            for (Slot slot : slots) {
                state.slots.add(slot.copy());
            }
            state.tubes = tubes.clone();
            state.settings = settings.clone();
            state.promises = new ArrayList<>(promises);
            state.box = box;
            state.hour = hour;
            state.paidLater = paidLater;
            state.sales = sales;
            state.takings = takings;
            state.fines = fines;
            return state;
        }
    }

    private State state = new State();
    private final Deque<State> savedStates = new ArrayDeque<>();
    private final StringBuilder text = new StringBuilder();

    private static void need(boolean holds, Class<?> otherwise) {
        if (!holds) {
            throw new Refusal(otherwise);
        }
    }

    private static void needArgument(boolean holds) {
        need(holds, IllegalArgumentException.class);
    }

    private static void needState(boolean holds) {
        need(holds, IllegalStateException.class);
    }

    private static void needIndex(boolean holds) {
        need(holds, IndexOutOfBoundsException.class);
    }

    private void keep(State before) {
        savedStates.addLast(before);
        if (savedStates.size() == 5) {
            savedStates.removeFirst();
        }
    }

    int set(int what, int value) {
        needArgument(what >= 0 && what <= 4);
        int low = what == 0 ? 1 : 0;
        int high = what == 3 ? 1000 : 100;
        needArgument(value >= low && value <= high && (what != 4 || value % 5 == 0));
        keep(state.copy());
        int old = state.settings[what];
        state.settings[what] = value;
        return old;
    }

    int addCoil(int kind, int lowest, int highest) {
        needArgument(kind >= 0 && kind <= 5);
        needArgument(lowest >= 5 && lowest <= 500 && lowest % 5 == 0);
        needArgument(highest >= lowest && highest <= 500 && highest % 5 == 0);
        needState(state.slots.size() < 8);
        keep(state.copy());
        Slot slot = new Slot();
        slot.facts = new int[] {kind, 0, lowest, lowest, highest, 0, 0, 0, 0, 0};
        state.slots.add(slot);
        return state.slots.size() - 1;
    }

    int stock(int coil, int goods) {
        State before = state.copy();
        int answer = doStock(coil, goods);
        keep(before);
        return answer;
    }

    private int doStock(int coil, int goods) {
        needIndex(coil >= 0 && coil < state.slots.size());
        needArgument(goods >= 1 && goods <= 20);
        needState(state.slots.get(coil).facts[1] + goods <= 20);
        return state.slots.get(coil).facts[1] += goods;
    }

    int fill(int tube, int coins) {
        State before = state.copy();
        int answer = doFill(tube, coins);
        keep(before);
        return answer;
    }

    private int doFill(int tube, int coins) {
        needIndex(tube >= 0 && tube <= 3);
        needArgument(coins >= 1 && coins <= 30);
        int taken = 0;
        while (taken < coins && state.tubes[tube] < 30) {
            state.tubes[tube]++;
            taken++;
        }
        payPromises();
        return taken;
    }

    int buy(int coil, int[] in) {
        State before = state.copy();
        int answer = doBuy(coil, in);
        keep(before);
        return answer;
    }

    private int doBuy(int coil, int[] in) {
        needIndex(coil >= 0 && coil < state.slots.size());
        for (int coins : in) {
            needArgument(coins >= 0 && coins <= 9);
        }
        State before = state.copy();
        Slot slot = state.slots.get(coil);
        needState(slot.facts[1] > 0);
        int back = -slot.facts[2];
        for (int tube = 0; tube < 4; tube++) {
            for (int i = 0; i < in[tube]; i++) {
                back += WORTH[tube];
            }
        }
        needState(back >= 0);
        for (int tube = 0; tube < 4; tube++) {
            for (int i = 0; i < in[tube]; i++) {
                if (state.tubes[tube] < 30) {
                    state.tubes[tube]++;
                } else {
                    state.box += WORTH[tube];
                }
            }
        }
        int answer = back;
        if (!pay(back)) {
            state.promises.add(back);
            answer = -10 - back;
            if (promised() > state.settings[3]) {
                state = before;
                throw new Refusal(IllegalStateException.class);
            }
        }
        slot.facts[1]--;
        slot.facts[6]++;
        slot.facts[7] += slot.facts[2];
        slot.demand += 1.0f;
        state.sales++;
        state.takings += slot.facts[2];
        payPromises();
        return answer;
    }

    private int promised() {
        int sum = 0;
        for (int amount : state.promises) {
            sum += amount;
        }
        return sum;
    }

    private boolean pay(int amount) {
        int[] way = fewest(amount, state.tubes);
        if (way == null) {
            return false;
        }
        for (int tube = 0; tube < 4; tube++) {
            state.tubes[tube] -= way[tube];
        }
        return true;
    }

    private void payPromises() {
        while (!state.promises.isEmpty() && pay(state.promises.get(0))) {
            state.paidLater += state.promises.remove(0);
        }
    }

    /** Tries all ways; null if there is none. */
    private static int[] fewest(int amount, int[] tubes) {
        int[] best = null;
        int bestCount = Integer.MAX_VALUE;
        for (int fifties = tubes[3]; fifties >= 0; fifties--) {
            for (int twenties = tubes[2]; twenties >= 0; twenties--) {
                for (int tens = tubes[1]; tens >= 0; tens--) {
                    int rest = amount - 50 * fifties - 20 * twenties - 10 * tens;
                    int count = fifties + twenties + tens + rest / 5;
                    if (rest >= 0 && rest % 5 == 0 && rest / 5 <= tubes[0] && count < bestCount) {
                        bestCount = count;
                        best = new int[] {rest / 5, tens, twenties, fifties};
                    }
                }
            }
        }
        return best;
    }

    int look(int coil) {
        needIndex(coil >= 0 && coil < state.slots.size());
        keep(state.copy());
        state.slots.get(coil).demand += 0.5f;
        return state.slots.get(coil).facts[2];
    }

    int pass(int hours) {
        State before = state.copy();
        int answer = doPass(hours);
        keep(before);
        return answer;
    }

    private int doPass(int hours) {
        needArgument(hours >= 1 && hours <= 48);
        needState(state.hour + hours <= 100000);
        int fines = 0;
        for (int i = 0; i < hours; i++) {
            fines += hour(state);
        }
        return fines;
    }

    private static int hour(State state) {
        boolean[] rose = new boolean[state.slots.size()];
        for (int c = 0; c < rose.length; c++) {
            int[] facts = state.slots.get(c).facts;
            float tenths = 10.0f * state.slots.get(c).demand;
            if (tenths >= state.settings[0] && facts[5] == 0 && facts[2] < facts[4]) {
                rose[c] = true;
                facts[2] += 5;
                facts[8]++;
            } else if (tenths < state.settings[1] && facts[2] > facts[3]) {
                facts[2] -= 5;
            }
        }
        for (Slot slot : state.slots) {
            slot.facts[5] = slot.facts[5] == 0 ? 0 : slot.facts[5] - 1;
        }
        int fines = 0;
        for (int c = 0; c + 1 < rose.length; c++) {
            int[] left = state.slots.get(c).facts;
            int[] right = state.slots.get(c + 1).facts;
            if (left[0] == right[0]) {
                left[9] = rose[c] && rose[c + 1] ? left[9] + 1 : 0;
                if (left[9] == 2) {
                    left[9] = 0;
                    fines++;
                    left[5] = 3;
                    right[5] = 3;
                    left[2] = Math.max(left[3], left[2] - state.settings[4]);
                    right[2] = Math.max(right[3], right[2] - state.settings[4]);
                }
            }
        }
        for (Slot slot : state.slots) {
            slot.demand = slot.demand * (float) state.settings[2] / 100.0f;
        }
        state.hour++;
        state.fines += fines;
        return fines;
    }

    int emptyBox() {
        keep(state.copy());
        int money = state.box;
        state.box = 0;
        return money;
    }

    int coil(int coil, int what) {
        needIndex(coil >= 0 && coil < state.slots.size());
        needArgument(what >= 0 && what <= 9);
        return state.slots.get(coil).facts[what];
    }

    float demand(int coil) {
        needIndex(coil >= 0 && coil < state.slots.size());
        return state.slots.get(coil).demand;
    }

    int tube(int tube) {
        needIndex(tube >= 0 && tube <= 3);
        return state.tubes[tube];
    }

    int value(int what) {
        needArgument(what >= 0 && what <= 10);
        int money = 0;
        for (int tube = 0; tube < 4; tube++) {
            money += WORTH[tube] * state.tubes[tube];
        }
        int goods = 0;
        for (Slot slot : state.slots) {
            goods += slot.facts[1];
        }
        return new int[] {state.slots.size(), state.hour, money, state.box, state.promises.size(),
            promised(), state.paidLater, state.sales, state.takings, state.fines, goods}[what];
    }

    int setting(int what) {
        needArgument(what >= 0 && what <= 4);
        return state.settings[what];
    }

    int promise(int index) {
        needIndex(index >= 0 && index < state.promises.size());
        return state.promises.get(index);
    }

    int change(int amount, int tube) {
        needArgument(amount >= 0 && amount <= 2000);
        needIndex(tube >= 0 && tube <= 3);
        int[] way = fewest(amount, state.tubes);
        return way == null ? -1 : way[tube];
    }

    int mostPayable(int bound) {
        needArgument(bound >= 0 && bound <= 2000);
        int most = 0;
        for (int fifties = 0; fifties <= state.tubes[3]; fifties++) {
            for (int twenties = 0; twenties <= state.tubes[2]; twenties++) {
                for (int tens = 0; tens <= state.tubes[1]; tens++) {
                    for (int fives = 0; fives <= state.tubes[0]; fives++) {
                        int amount = 50 * fifties + 20 * twenties + 10 * tens + 5 * fives;
                        most = amount <= bound && amount > most ? amount : most;
                    }
                }
            }
        }
        return most;
    }

    int coinFor(int amount) {
        needArgument(amount >= 0 && amount <= 2000);
        if (fewest(amount, state.tubes) != null) {
            return 4;
        }
        for (int tube = 0; tube < 4; tube++) {
            int[] tubes = state.tubes.clone();
            tubes[tube]++;
            if (fewest(amount, tubes) != null) {
                return tube;
            }
        }
        return -1;
    }

    int priceIn(int coil, int hours) {
        needIndex(coil >= 0 && coil < state.slots.size());
        needArgument(hours >= 0 && hours <= 48);
        State later = state.copy();
        for (int i = 0; i < hours; i++) {
            hour(later);
        }
        return later.slots.get(coil).facts[2];
    }

    int salesInARow(int coil, int tens, int fifties) {
        needIndex(coil >= 0 && coil < state.slots.size());
        needArgument(tens >= 0 && tens <= 9 && fifties >= 0 && fifties <= 9);
        State before = state.copy();
        int sales = 0;
        try {
            for (;; sales++) {
                doBuy(coil, new int[] {0, tens, 0, fifties});
            }
        } catch (Refusal refusal) {
            state = before;
        }
        return sales;
    }

    int favorite() {
        int best = -1;
        for (int c = state.slots.size() - 1; c >= 0; c--) {
            if (best < 0 || state.slots.get(c).demand >= state.slots.get(best).demand) {
                best = c;
            }
        }
        return best;
    }

    int append(int value) {
        needArgument(value >= 0 && value <= 127);
        needState(text.length() < 100);
        return text.append((char) value).length();
    }

    int clearText() {
        int length = text.length();
        text.setLength(0);
        return length;
    }

    int carryOut() {
        int error = syntaxError();
        if (error >= 0) {
            return -10 - error;
        }
        keep(state.copy());
        int done = 0;
        Matcher order = ORDER.matcher(text);
        try {
            while (order.find()) {
                obey(order.group());
                done++;
            }
        } catch (Refusal refusal) {
            return done;
        }
        return done;
    }

    private void obey(String order) {
        String[] parts = order.substring(0, order.length() - 1).split("[sbfhx,]");
        int first = parts[1].isEmpty() ? 0 : Integer.parseInt(parts[1]);
        switch (order.charAt(0)) {
            case 's' -> doStock(first, Integer.parseInt(parts[2]));
            case 'b' -> {
                int[] in = new int[4];
                for (int i = 0; i < 4; i++) {
                    in[i] = Integer.parseInt(parts[2 + i]);
                }
                doBuy(first, in);
            }
            case 'f' -> doFill(first, Integer.parseInt(parts[2]));
            default -> doPass(first);
        }
    }

    /** The first byte that cannot stand, or a number out of range that is found before; or -1. */
    private int syntaxError() {
        int end = 0;
        while (end < text.length() && canStart(text.substring(0, end + 1))) {
            end++;
        }
        Matcher number = NUMBER.matcher(text);
        while (number.find() && number.end() <= end) {
            char letter = number.group(1).charAt(0);
            int most = letter == 's' ? 20 : letter == 'f' ? 30 : 48;
            int read = Integer.parseInt(number.group());
            if (read < 1 || read > most) {
                return number.start();
            }
        }
        return end == text.length() && ORDERS.matcher(text).matches() ? -1 : end;
    }

    private static boolean canStart(String start) {
        Matcher matcher = ORDERS.matcher(start);
        return matcher.matches() || matcher.hitEnd();
    }

    int undo() {
        needState(!savedStates.isEmpty());
        state = savedStates.removeLast();
        return savedStates.size();
    }

    long digest() {
        long h = 3643;
        h = 31 * h + text.length();
        for (int what = 0; what <= 10; what++) {
            h = 31 * h + value(what);
        }
        for (int v : state.settings) {
            h = 31 * h + v;
        }
        for (int v : state.tubes) {
            h = 31 * h + v;
        }
        for (Slot slot : state.slots) {
            for (int v : slot.facts) {
                h = 31 * h + v;
            }
            h = 31 * h + Float.floatToIntBits(slot.demand);
        }
        for (int v : state.promises) {
            h = 31 * h + v;
        }
        return 31 * h + savedStates.size();
    }
}
