import java.util.Arrays;

/** What the tests share: answers that are due, and short ways to write PROGRAMS. */
final class Due {
    static final int PUSH = 0;
    static final int ADD = 1;
    static final int TAKE = 2;
    static final int TIMES = 3;
    static final int TWICE = 4;
    static final int TURN = 5;
    static final int DROP = 6;
    static final int GET = 7;
    static final int SET = 8;
    static final int GO = 9;
    static final int IF = 10;
    static final int LESS = 11;
    static final int OUT = 12;
    static final int HALT = 13;
    static final int REST = 14;
    static final int MORE = 15;

    static final int NONE = OrdersMadeOne.NONE;

    /** Numbers that lie at edges, and beside them. */
    static final int[] ODD = {Integer.MIN_VALUE, Integer.MIN_VALUE + 1, -129, -128, -2, -1, 0, 1, 2, 3, 4, 5, 6, 7, 8,
        9, 10, 12, 13, 15, 16, 23, 24, 25, 39, 40, 41, 127, 128, 255, 256, 19999, 20000, 20001,
        Integer.MAX_VALUE - 1, Integer.MAX_VALUE};

    /** 2^31 below zero, and the greatest number, by ORDERS that need no number to go around. */
    static final int[] LEAST_NUMBER = {PUSH, 64, TWICE, 0, TIMES, 0, TWICE, 0, TIMES, 0, PUSH, -128, TIMES, 0};
    static final int[] GREATEST_NUMBER = behind(LEAST_NUMBER, PUSH, 1, ADD, 0, PUSH, -1, TIMES, 0);

    private static int wrong = 0;
    private static String about = "";

    private Due() {
    }

    /** The sentence of the document by which the answers from here on are due. */
    static void about(String sentence) {
        about = "\"" + sentence + "\" ";
    }

    static void due(String call, long got, long want) {
        if (got != want) {
            wrong++;
            System.out.println(about + call + " answered " + got + ", due is " + want);
        }
    }

    static void due(String call, boolean got, boolean want) {
        due(call, got ? 1 : 0, want ? 1 : 0);
    }

    static void end() {
        System.out.println(wrong == 0 ? "all answers are as due" : wrong + " answers are not as due");
        if (wrong != 0) {
            System.exit(1);
        }
    }

    /** A new PROGRAM of ORDERS that are told as kind, ARGUMENT, kind, ARGUMENT .. */
    static int write(OrdersMadeOne x, int... orders) {
        int program = x.program();
        add(x, program, orders);
        return program;
    }

    static void add(OrdersMadeOne x, int program, int... orders) {
        for (int k = 0; k + 1 < orders.length; k += 2) {
            int size = x.count(10 + program);
            due("order " + orders[k] + " " + orders[k + 1], x.order(program, orders[k], orders[k + 1]), size);
        }
    }

    /** A new PROGRAM of kinds, each with ARGUMENT 0 (places at the beginning for go and if). */
    static int writeKinds(OrdersMadeOne x, int... kinds) {
        int program = x.program();
        for (int kind : kinds) {
            x.order(program, kind, 0);
        }
        return program;
    }

    static void dueCodes(String what, OrdersMadeOne x, int... lengths) {
        due(what + ": codes", x.count(2), lengths.length);
        int place = 0;
        for (int k = 0; k < lengths.length; k++) {
            due(what + ": place of code " + k, x.code(k, 1), place);
            due(what + ": length of code " + k, x.code(k, 2), lengths[k]);
            place += lengths[k];
        }
    }

    static void dueBytes(String what, OrdersMadeOne x, int... bytes) {
        due(what + ": bytes", x.count(3), bytes.length);
        for (int k = 0; k < bytes.length; k++) {
            due(what + ": byte " + k, x.bytes(k), bytes[k]);
        }
        due(what + ": byte behind", x.bytes(bytes.length), NONE);
        due(what + ": byte ahead", x.bytes(-1), NONE);
    }

    static void dueChosen(String what, OrdersMadeOne x, int[]... rows) {
        due(what + ": rows chosen", x.count(4), rows.length);
        for (int k = 0; k < rows.length; k++) {
            for (int i = 0; i < rows[k].length; i++) {
                due(what + ": row " + k + " kind " + i, x.chosen(k, i), rows[k][i]);
            }
            due(what + ": row " + k + " behind", x.chosen(k, rows[k].length), NONE);
        }
        due(what + ": row behind", x.chosen(rows.length, 0), NONE);
    }

    static int[] row(int... kinds) {
        return kinds;
    }

    static int[] behind(int[] orders, int... more) {
        int[] all = Arrays.copyOf(orders, orders.length + more.length);
        System.arraycopy(more, 0, all, orders.length, more.length);
        return all;
    }

    /** The same ORDERS so many times. */
    static int[] times(int n, int... orders) {
        int[] all = {};
        for (int k = 0; k < n; k++) {
            all = behind(all, orders);
        }
        return all;
    }

    static void duePile(String what, OrdersMadeOne x, int... numbers) {
        due(what + ": on the pile", x.ran(2), numbers.length);
        for (int k = 0; k < numbers.length; k++) {
            due(what + ": number " + k + " of the pile", x.had(0, k), numbers[k]);
        }
        due(what + ": above the pile", x.had(0, numbers.length), 0);
    }

    static void dueOut(String what, OrdersMadeOne x, int... numbers) {
        due(what + ": out", x.ran(3), numbers.length);
        for (int k = 0; k < numbers.length; k++) {
            due(what + ": number " + k + " out", x.had(1, k), numbers[k]);
        }
        due(what + ": behind those out", x.had(1, numbers.length), 0);
    }

    /** ORDERS done, and the place at which the RUN ENDS. */
    static void dueDone(String what, OrdersMadeOne x, int done, int place) {
        due(what + ": done", x.ran(0), done);
        due(what + ": place", x.ran(4), place);
    }

    static void dueOrders(String what, OrdersMadeOne x, int program, int... orders) {
        due(what + ": orders", x.count(10 + program), orders.length / 2);
        for (int k = 0; k + 1 < orders.length; k += 2) {
            due(what + ": kind at " + k / 2, x.tell(program, k / 2, 0), orders[k]);
            due(what + ": argument at " + k / 2, x.tell(program, k / 2, 1), orders[k + 1]);
        }
    }
}
