import java.util.Random;

/** All promises: random runs of calls on the class and on the model, odd arguments among them, with fixed seeds. */
public final class RandomRunsTest {
    private static final int RUNS = 300;
    private static final int CALLS = 512;

    private final Random random;
    private final OrdersMadeOne x = new OrdersMadeOne();
    private final Model model = new Model();
    private final String name;
    /** Of a hundred arguments so many are odd ones. */
    private final int odd;
    /** Programs of few kinds have rows that come often. */
    private final int[] kinds;
    private final int jumps;

    private RandomRunsTest(int seed) {
        random = new Random(seed);
        name = "seed " + seed + ": ";
        odd = seed % 4 == 0 ? 25 : 3;
        kinds = new int[3 + random.nextInt(8)];
        for (int k = 0; k < kinds.length; k++) {
            kinds[k] = random.nextInt(3) == 0 ? new int[] {0, 7, 15}[random.nextInt(3)] : random.nextInt(16);
        }
        jumps = random.nextInt(40) + 1;
    }

    public static void main(String[] args) {
        for (int seed = 0; seed < RUNS; seed++) {
            new RandomRunsTest(seed).play();
        }
        Due.end();
    }

    private int pick(int low, int high) {
        if (random.nextInt(100) < odd) {
            return Due.ODD[random.nextInt(Due.ODD.length)];
        }
        return low + random.nextInt(high - low + 1);
    }

    private int argumentFor(int kind) {
        switch (kind) {
            case 0:
                return random.nextInt(3) == 0 ? pick(-128, 127) : pick(-2, 3);
            case 7:
            case 8:
            case 15:
                return random.nextBoolean() ? pick(0, 1) : pick(0, 7);
            case 9:
            case 10:
                return pick(0, jumps - 1);
            default:
                return pick(0, 0);
        }
    }

    private void play() {
        int calls = 0;
        while (calls < CALLS) {
            int row = random.nextInt(8) == 0 ? 8 : 1;
            int call = random.nextInt(100);
            for (int k = 0; k < row && calls < CALLS; k++) {
                calls++;
                once(call);
            }
        }
    }

    private void once(int call) {
        if (call < 30) {
            write();
        } else if (call < 45) {
            makeRows();
        } else if (call < 65) {
            pack();
        } else if (call < 80) {
            run();
        } else if (call < 90) {
            feed();
        } else {
            imageAndCount();
        }
    }

    private void write() {
        int program = pick(0, 2);
        if (random.nextInt(12) == 0) {
            Due.due(name + "program", x.program(), model.program());
        } else if (random.nextInt(5) > 0) {
            int kind = random.nextInt(10) == 0 ? pick(0, 15) : kinds[random.nextInt(kinds.length)];
            int argument = argumentFor(kind);
            Due.due(name + "order " + program + " " + kind + " " + argument,
                x.order(program, kind, argument), model.order(program, kind, argument));
        } else {
            int place = pick(0, Math.max(0, model.count(10 + Math.floorMod(program, 3)) - 1));
            int argument = argumentFor(Math.max(0, model.tell(program, place, 0)));
            Due.due(name + "change " + program + " " + place + " " + argument,
                x.change(program, place, argument), model.change(program, place, argument));
        }
    }

    private void makeRows() {
        switch (random.nextInt(8)) {
            case 0:
                if (random.nextInt(3) == 0) {
                    x.part();
                    model.part();
                }
                break;
            case 1:
            case 2:
                int k = pick(1, 2);
                boolean byRuns = random.nextBoolean();
                Due.due(name + "choose " + k + " " + byRuns, x.choose(k, byRuns), model.choose(k, byRuns));
                for (int i = 0; i < 8; i++) {
                    Due.due(name + "chosen", x.chosen(i / 4, i % 4), model.chosen(i / 4, i % 4));
                }
                break;
            case 3:
                Due.due(name + "take", x.take(), model.take());
                break;
            default:
                joinOne();
                break;
        }
    }

    private void joinOne() {
        int program = random.nextInt(3);
        int place = random.nextInt(40);
        int n = pick(2, 4);
        int[] row = new int[4];
        for (int k = 0; k < 4; k++) {
            int there = model.tell(program, place + k, 0);
            row[k] = there == -1 || random.nextInt(20) == 0 ? pick(0, 15) : there;
        }
        Due.due(name + "join " + n, x.join(n, row[0], row[1], row[2], row[3]),
            model.join(n, row[0], row[1], row[2], row[3]));
        int join = pick(0, 5);
        int k = pick(0, 3);
        Due.due(name + "joined " + join + " " + k, x.joined(join, k), model.joined(join, k));
    }

    private void pack() {
        int what = random.nextInt(6);
        int k = pick(0, 20);
        int of = pick(0, 2);
        if (what == 0) {
            Due.due(name + "pack " + of, x.pack(of), model.pack(of));
            for (int code = -1; code <= 40; code++) {
                Due.due(name + "number of code " + code, x.code(code, 0), model.code(code, 0));
                Due.due(name + "length of code " + code, x.code(code, 2), model.code(code, 2));
            }
        } else if (what == 1) {
            Due.due(name + "code " + k + " " + of, x.code(k, of), model.code(k, of));
        } else if (what == 2) {
            Due.due(name + "bytes " + k, x.bytes(k), model.bytes(k));
        } else if (what == 3) {
            Due.due(name + "cost by runs", x.cost(true), model.cost(true));
        } else if (what == 4) {
            Due.due(name + "cost by places", x.cost(false), model.cost(false));
        } else {
            int place = pick(0, 39);
            int ask = pick(0, 3);
            Due.due(name + "tell " + of + " " + place + " " + ask, x.tell(of, place, ask), model.tell(of, place, ask));
        }
    }

    private void run() {
        if (random.nextInt(3) > 0) {
            int what = pick(0, 4);
            Due.due(name + "ran " + what, x.ran(what), model.ran(what));
            int k = pick(0, 9);
            Due.due(name + "had " + what + " " + k, x.had(what, k), model.had(what, k));
            return;
        }
        int program = pick(0, 2);
        boolean packed = random.nextBoolean();
        int most = random.nextInt(20) == 0 ? pick(0, 20000) : pick(0, 300);
        Due.due(name + "run " + program + " " + packed + " " + most,
            x.run(program, packed, most), model.run(program, packed, most));
        for (int what = 0; what < 5; what++) {
            Due.due(name + "then ran " + what, x.ran(what), model.ran(what));
        }
        for (int k = -1; k <= 40; k++) {
            for (int what = 0; what < 3; what++) {
                Due.due(name + "then had " + what + " " + k, x.had(what, k), model.had(what, k));
            }
            Due.due(name + "then times of " + k, x.tell(program, k, 2), model.tell(program, k, 2));
        }
    }

    private void feed() {
        int way = random.nextInt(6);
        if (way == 0) {
            Due.due(name + "read", x.read(), model.read());
        } else if (way == 1) {
            int four = random.nextInt();
            int n = pick(1, 4);
            if (random.nextInt(6) == 0) {
                Due.due(name + "feed " + four + " " + n, x.feed(four, n), model.feed(four, n));
            }
        } else {
            int kind = random.nextInt(3) == 0 ? 16 + random.nextInt(4) : kinds[random.nextInt(kinds.length)];
            int four = kind << 24 | random.nextInt(8) << 16 | random.nextInt(40) << 8;
            int n = kind < 16 && "ahijkp".indexOf('a' + kind) < 0 ? 1 : 2;
            Due.due(name + "feed " + four + " " + n, x.feed(four, n), model.feed(four, n));
        }
    }

    private void imageAndCount() {
        int what = random.nextInt(10);
        int k = pick(0, 2);
        if (what == 0) {
            Due.due(name + "image " + k, x.image(k), model.image(k));
        } else if (what == 1) {
            Due.due(name + "again " + k, x.again(k), model.again(k));
        } else {
            for (int count = -1; count < 14; count++) {
                Due.due(name + "count " + count, x.count(count), model.count(count));
            }
            int one = pick(0, 13);
            Due.due(name + "count " + one, x.count(one), model.count(one));
        }
    }
}
