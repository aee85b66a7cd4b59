import java.util.ArrayList;
import java.util.List;
import java.util.Random;

/**
 * All promises: random runs of at most 512 calls on the class and on the model, odd arguments among them, with fixed
 * seeds.
 */
public final class RandomRunsTest {
    private static final int RUNS = 900;
    private static final int CALLS = 512;
    /** More than any look, or any turn, takes. */
    private static final int CALLS_OF_A_LOOK = 90;
    /** The model tries all sets one by one. */
    private static final int MOST_CHOICES = 6;
    /** Kinds of which a run seldom wants more than the pile has, so that it goes on for long. */
    private static final int[] STEADY = {0, 0, 4, 6, 7, 8, 9, 10, 12, 14, 14, 15, 15};

    private final Random random;
    private final OrdersMadeOne x = new OrdersMadeOne();
    private final Model model = new Model();
    private final String name;
    /** Of a hundred arguments so many are odd ones. */
    private final int odd;
    /** Programs of few kinds have rows that come often. */
    private final int[] kinds;
    private final int jumps;
    /** How many programs are there from the beginning. */
    private final int begins;
    private int calls = 0;
    private int choices = 0;

    private RandomRunsTest(int seed) {
        random = new Random(seed);
        name = "seed " + seed + ": ";
        odd = seed % 4 == 0 ? 25 : 3;
        kinds = new int[3 + random.nextInt(8)];
        int[] steady = seed % 3 == 1 ? STEADY : new int[] {0, 7, 15};
        for (int k = 0; k < kinds.length; k++) {
            boolean any = seed % 3 != 1 && random.nextInt(3) > 0;
            kinds[k] = any ? random.nextInt(16) : steady[random.nextInt(steady.length)];
        }
        jumps = random.nextInt(40) + 1;
        begins = seed % 2 == 0 ? 0 : 1 + random.nextInt(3);
    }

    public static void main(String[] args) {
        for (int seed = 0; seed < RUNS; seed++) {
            new RandomRunsTest(seed).play();
        }
        Due.end();
    }

    private void same(String call, long got, long want) {
        calls++;
        Due.due(name + "call " + calls + ", " + call, got, want);
    }

    private void same(String call, boolean got, boolean want) {
        same(call, got ? 1 : 0, want ? 1 : 0);
    }

    private int pick(int low, int high) {
        if (random.nextInt(100) < odd) {
            return Due.ODD[random.nextInt(Due.ODD.length)];
        }
        return low + random.nextInt(high - low + 1);
    }

    private int anyKind() {
        return kinds[random.nextInt(kinds.length)];
    }

    private int argumentFor(int kind) {
        switch (kind) {
            case 0:
                return random.nextInt(3) == 0 ? pick(-128, 127) : pick(-2, 3);
            case 7:
            case 8:
            case 15:
                return random.nextBoolean() ? pick(0, 1) : pick(0, 7);
            case 9:
            case 10:
                return pick(0, jumps - 1);
            default:
                return pick(0, 0);
        }
    }

    private void play() {
        for (int program = 0; program < begins; program++) {
            if (random.nextBoolean()) {
                readMany();
            } else {
                same("program", x.program(), model.program());
            }
        }
        while (calls < CALLS - 2 * CALLS_OF_A_LOOK) {
            int turns = random.nextInt(8) == 0 ? 8 : 1;
            int turn = random.nextInt(100);
            for (int k = 0; k < turns && calls < CALLS - 2 * CALLS_OF_A_LOOK; k++) {
                once(turn);
            }
        }
        look(random.nextInt(5));
    }

    private void once(int turn) {
        if (turn < 36) {
            write();
        } else if (turn < 50) {
            makeRows();
        } else if (turn < 68) {
            pack();
        } else if (turn < 82) {
            run();
        } else if (turn < 90) {
            feed();
        } else if (turn < 92) {
            readMany();
        } else {
            imageAndCount();
        }
    }

    private void write() {
        int program = pick(0, 2);
        if (random.nextInt(14) == 0) {
            same("program", x.program(), model.program());
        } else if (random.nextInt(5) > 0) {
            int kind = random.nextInt(10) == 0 ? pick(0, 15) : anyKind();
            int argument = argumentFor(kind);
            same("order " + program + " " + kind + " " + argument,
                x.order(program, kind, argument), model.order(program, kind, argument));
        } else {
            int place = pick(0, Math.max(0, model.count(10 + Math.floorMod(program, 3)) - 1));
            int argument = argumentFor(Math.max(0, model.tell(program, place, 0)));
            same("change " + program + " " + place + " " + argument,
                x.change(program, place, argument), model.change(program, place, argument));
        }
    }

    private void makeRows() {
        int what = random.nextInt(9);
        if (what == 0) {
            if (random.nextInt(3) == 0) {
                calls++;
                x.part();
                model.part();
            }
        } else if (what <= 2) {
            choose();
        } else if (what == 3) {
            same("take", x.take(), model.take());
        } else {
            joinOne();
        }
    }

    private void choose() {
        int k = pick(1, 2);
        boolean byRuns = random.nextBoolean();
        choices++;
        if (choices <= MOST_CHOICES) {
            for (int program = 0; byRuns && program < 3; program++) {
                int most = pick(0, 200);
                same("run " + program + " false " + most, x.run(program, false, most), model.run(program, false, most));
            }
            same("choose " + k + " " + byRuns, x.choose(k, byRuns), model.choose(k, byRuns));
        }
        for (int i = 0; i < 8; i++) {
            same("chosen", x.chosen(i / 4, i % 4), model.chosen(i / 4, i % 4));
        }
    }

    private void joinOne() {
        int program = random.nextInt(3);
        int place = random.nextInt(40);
        int n = pick(2, 4);
        int[] row = new int[4];
        for (int k = 0; k < 4; k++) {
            int there = model.tell(program, place + k, 0);
            row[k] = there == -1 || random.nextInt(20) == 0 ? pick(0, 15) : there;
        }
        same("join " + n, x.join(n, row[0], row[1], row[2], row[3]), model.join(n, row[0], row[1], row[2], row[3]));
        int join = pick(0, 5);
        int k = pick(0, 3);
        same("joined " + join + " " + k, x.joined(join, k), model.joined(join, k));
    }

    private void pack() {
        int what = random.nextInt(6);
        int k = pick(0, 20);
        int of = pick(0, 2);
        if (what == 0) {
            same("pack " + of, x.pack(of), model.pack(of));
        } else if (what == 1) {
            same("code " + k + " " + of, x.code(k, of), model.code(k, of));
        } else if (what == 2) {
            same("bytes " + k, x.bytes(k), model.bytes(k));
        } else if (what == 3) {
            same("cost by runs", x.cost(true), model.cost(true));
        } else if (what == 4) {
            same("cost by places", x.cost(false), model.cost(false));
        } else {
            int place = pick(0, 39);
            int ask = pick(0, 3);
            same("tell " + of + " " + place + " " + ask, x.tell(of, place, ask), model.tell(of, place, ask));
        }
    }

    private void run() {
        if (random.nextInt(3) > 0) {
            int what = pick(0, 4);
            same("ran " + what, x.ran(what), model.ran(what));
            int k = pick(0, 9);
            same("had " + what + " " + k, x.had(what, k), model.had(what, k));
            return;
        }
        int program = pick(0, 2);
        boolean packed = random.nextBoolean();
        int most = random.nextInt(20) == 0 ? pick(0, 20000) : pick(0, 300);
        same("run " + program + " " + packed + " " + most,
            x.run(program, packed, most), model.run(program, packed, most));
        for (int what = 0; what < 5; what++) {
            same("ran " + what, x.ran(what), model.ran(what));
        }
        int place = Math.max(0, model.ran(4));
        same("times of " + place, x.tell(program, place, 2), model.tell(program, place, 2));
        int top = Math.max(0, model.ran(2) - 1);
        same("top", x.had(0, top), model.had(0, top));
    }

    private void feed() {
        int way = random.nextInt(6);
        if (way == 0) {
            same("read", x.read(), model.read());
        } else if (way == 1) {
            int four = random.nextInt();
            int n = pick(1, 4);
            if (random.nextInt(6) == 0) {
                same("feed " + four + " " + n, x.feed(four, n), model.feed(four, n));
            }
        } else {
            int kind = random.nextInt(3) == 0 ? 16 + random.nextInt(4) : anyKind();
            int four = kind << 24 | random.nextInt(8) << 16 | random.nextInt(40) << 8;
            int n = kind < 16 && !hasArgument(kind) ? 1 : 2;
            same("feed " + four + " " + n, x.feed(four, n), model.feed(four, n));
        }
    }

    private static boolean hasArgument(int kind) {
        return "ahijkp".indexOf('a' + kind) >= 0;
    }

    /** About forty ORDERS by as few calls as can be; some of them too many, or with an ARGUMENT that can't be. */
    private void readMany() {
        List<Integer> bytes = new ArrayList<>();
        int orders = 0;
        int most = 30 + random.nextInt(14);
        while (orders < most && bytes.size() < 150) {
            int join = random.nextInt(9);
            if (model.joined(join, 0) == Due.NONE) {
                int kind = anyKind();
                bytes.add(kind);
                addArgument(bytes, kind);
                orders++;
            } else {
                bytes.add(16 + join);
                for (int k = 0; model.joined(join, k) != Due.NONE; k++) {
                    addArgument(bytes, model.joined(join, k));
                    orders++;
                }
            }
        }
        for (int k = 0; k < bytes.size(); k += 4) {
            int four = 0;
            for (int i = 0; i < 4; i++) {
                four = four << 8 | (k + i < bytes.size() ? bytes.get(k + i) : 99);
            }
            int n = Math.min(4, bytes.size() - k);
            same("feed " + four + " " + n, x.feed(four, n), model.feed(four, n));
        }
        same("read", x.read(), model.read());
    }

    private void addArgument(List<Integer> bytes, int kind) {
        if (hasArgument(kind)) {
            bytes.add((random.nextInt(200) == 0 ? random.nextInt(256) : argumentWithin(kind)) & 255);
        }
    }

    private int argumentWithin(int kind) {
        return kind == 0 ? random.nextInt(5) - 2 : kind == 9 || kind == 10 ? random.nextInt(jumps) : random.nextInt(8);
    }

    private void imageAndCount() {
        int what = random.nextInt(10);
        int k = pick(0, 2);
        if (what == 0) {
            same("image " + k, x.image(k), model.image(k));
        } else if (what == 1) {
            same("again " + k, x.again(k), model.again(k));
        } else {
            int one = pick(0, 13);
            same("count " + one, x.count(one), model.count(one));
        }
    }

    /** One of the things that take many calls to be seen whole. */
    private void look(int at) {
        for (int k = -1; k <= 40; k++) {
            if (at == 0) {
                same("had pile " + k, x.had(0, k), model.had(0, k));
                same("had out " + k, x.had(1, k), model.had(1, k));
            } else if (at == 1) {
                same("number of code " + k, x.code(k, 0), model.code(k, 0));
                same("length of code " + k, x.code(k, 2), model.code(k, 2));
            } else if (at == 2) {
                same("byte " + 2 * k, x.bytes(2 * k), model.bytes(2 * k));
                same("byte " + (2 * k + 1), x.bytes(2 * k + 1), model.bytes(2 * k + 1));
            } else if (at == 3) {
                int program = random.nextInt(3);
                same("times of " + k, x.tell(program, k, 2), model.tell(program, k, 2));
                same("led to " + k, x.tell(program, k, 3), model.tell(program, k, 3));
            } else {
                int program = random.nextInt(3);
                same("kind at " + k, x.tell(program, k, 0), model.tell(program, k, 0));
                same("argument at " + k, x.tell(program, k, 1), model.tell(program, k, 1));
            }
        }
        for (int count = 0; count < 14 && calls < CALLS; count++) {
            same("count " + count, x.count(count), model.count(count));
        }
    }
}
