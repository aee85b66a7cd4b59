import java.util.Arrays;
import java.util.EnumMap;
import java.util.Map;
import java.util.function.Consumer;
import java.util.function.ToIntFunction;

/**
 * All that can be asked of an object, in order to see that a call leaves it as it was. It is asked in parts, each of a
 * new object to which the same calls came, since nothing is promised of one behind its 512th call.
 */
final class Whole {
    /** States in which a call may come. */
    enum State { NEW, MIDST, FULL }

    private static final int PARTS = 9;
    private static final int MOST_ANSWERS = 4 * PARTS * 256;

    private static final Map<State, int[]> KNOWN = new EnumMap<>(State.class);

    private final int[] answers = new int[MOST_ANSWERS];
    private int size = 0;

    private Whole() {
    }

    static OrdersMadeOne in(State state) {
        OrdersMadeOne x = new OrdersMadeOne();
        if (state == State.MIDST) {
            toTheMidst(x);
        } else if (state == State.FULL) {
            fill(x);
        }
        return x;
    }

    /** Some of all, and room for more. */
    private static void toTheMidst(OrdersMadeOne x) {
        Due.write(x, Due.PUSH, 5, Due.OUT, 0, Due.PUSH, -1, Due.SET, 3, Due.PUSH, 7, Due.GO, 7);
        Due.write(x, Due.PUSH, 1, Due.ADD, 0);
        x.join(2, Due.PUSH, Due.OUT, 0, 0);
        x.join(3, Due.PUSH, Due.SET, Due.PUSH, 0);
        x.image(1);
        x.pack(0);
        x.run(1, false, 100);
        x.run(0, false, 100);
        x.choose(1, false);
        x.feed(0x04000100, 3);
    }

    /** As much of all as there can be. */
    private static void fill(OrdersMadeOne x) {
        x.image(0);
        // Forty go out, then the pile fills.
        Due.write(x, Due.MORE, 1, Due.GET, 1, Due.OUT, 0, Due.GET, 1, Due.PUSH, 40, Due.LESS, 0, Due.IF, 8,
            Due.GO, 0, Due.GET, 1, Due.GO, 8);
        for (int place = 10; place < 40; place++) {
            x.order(0, place % 6, 0);
        }
        Due.write(x, Due.PUSH, 1, Due.MORE, 7, Due.GO, 1);
        Due.write(x, Due.PUSH, 1, Due.MORE, 7, Due.HALT, 0);
        for (int k = 0; k < 6; k++) {
            x.join(2, k, (k + 1) % 6, 0, 0);
        }
        x.image(1);
        x.choose(2, false);
        x.pack(0);
        x.run(2, false, 20);
        x.run(1, false, 20);
        x.run(0, false, 20000);
        for (int k = 0; k < 40; k++) {
            x.feed(0x01020304, 4);
        }
        x.image(2);
        x.change(1, 2, 0);
    }

    /** The call answers so, and all that can be asked then is as if it had not come. */
    static void refused(String what, State state, ToIntFunction<OrdersMadeOne> call, int want) {
        Due.due(what + ", " + state, call.applyAsInt(in(state)), want);
        int[] before = KNOWN.computeIfAbsent(state, s -> of(s, x -> { }, 3));
        int[] after = of(state, call::applyAsInt, 3);
        Due.due(what + ", " + state + ": first answer that is another one", Arrays.mismatch(before, after), -1);
    }

    static void refusedEverywhere(String what, ToIntFunction<OrdersMadeOne> call, int want) {
        for (State state : State.values()) {
            refused(what, state, call, want);
        }
    }

    /** All that can be asked without the images is as if these calls had not come. */
    static void sameBesideImages(String what, State state, Consumer<OrdersMadeOne> calls) {
        int mismatch = Arrays.mismatch(of(state, x -> { }, 0), of(state, calls, 0));
        Due.due(what + ", " + state + ": first answer that is another one", mismatch, -1);
    }

    /** As it is then, and as it is by each of so many images. */
    private static int[] of(State state, Consumer<OrdersMadeOne> then, int images) {
        Whole whole = new Whole();
        for (int image = -1; image < images; image++) {
            for (int part = 0; part < PARTS; part++) {
                OrdersMadeOne x = in(state);
                then.accept(x);
                whole.add(image >= 0 && x.again(image) ? 1 : 0);
                whole.ask(x, part);
            }
        }
        return Arrays.copyOf(whole.answers, whole.size);
    }

    private void add(int answer) {
        answers[size] = answer;
        size++;
    }

    private void ask(OrdersMadeOne x, int part) {
        switch (part) {
            case 0:
                askForCounts(x);
                askForRows(x);
                break;
            case 1:
                askForRun(x);
                break;
            case 2:
                askForCodes(x);
                break;
            case 3:
            case 4:
            case 5:
                askForOrders(x, part - 3);
                break;
            case 6:
                add(x.take());
                askForRows(x);
                break;
            case 7:
                // Without room for one more PROGRAM there is no way to see the BYTES that are told.
                add(x.read());
                askForOrders(x, x.count(0) - 1);
                break;
            default:
                add(x.run(0, true, 1000));
                askForRun(x);
                break;
        }
    }

    private void askForCounts(OrdersMadeOne x) {
        for (int what = 0; what < 14; what++) {
            add(x.count(what));
        }
        add(x.cost(false));
        add(x.cost(true));
    }

    private void askForRows(OrdersMadeOne x) {
        for (int k = 0; k < 6; k++) {
            for (int i = 0; i < 4; i++) {
                add(x.joined(k, i));
                add(x.chosen(k, i));
            }
        }
    }

    private void askForRun(OrdersMadeOne x) {
        for (int what = 0; what < 5; what++) {
            add(x.ran(what));
        }
        for (int k = 0; k < 40; k++) {
            for (int what = 0; what < 3; what++) {
                add(x.had(what, k));
            }
        }
    }

    private void askForCodes(OrdersMadeOne x) {
        for (int k = 0; k < 40; k++) {
            for (int what = 0; what < 3; what++) {
                add(x.code(k, what));
            }
        }
        for (int k = 0; k < 80; k++) {
            add(x.bytes(k));
        }
    }

    private void askForOrders(OrdersMadeOne x, int program) {
        for (int place = 0; place < 40; place++) {
            for (int what = 0; what < 4; what++) {
                add(x.tell(program, place, what));
            }
        }
    }
}
