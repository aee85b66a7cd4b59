import java.util.function.Consumer;

/** Terms 1, ORDERS, PROGRAMS and RUNS: a method for each sentence, or part of one, that names an edge. */
public final class EdgesOfTerms1Test {
    private static final int[] WANTS = {0, 2, 2, 2, 1, 2, 1, 0, 1, 0, 1, 2, 1, 0, 0, 0};

    public static void main(String[] args) {
        kinds();
        pushes();
        registers();
        placesToLeadTo();
        whichHaveAnArgument();
        take();
        turn();
        ifAtZero();
        less();
        numbersGoAround();
        moreGoesAround();
        atMostThreePrograms();
        atMostFortyOrders();
        aRunBeginsAnew();
        endsByHalt();
        endsWhereThereIsNoOrder();
        askedAheadOfAllElse();
        wantsMoreThanThePileHas();
        moreThan24OnThePile();
        moreThan40Out();
        asManyAsWereTold();
        changesNothing();
        wasNotDone();
        haltWas();
        Due.end();
    }

    /** A RUN of such a PROGRAM, then one of it PACKED by the rows CHOSEN for it: both are to be alike. */
    private static void bothWays(int[] orders, int most, int end, Consumer<OrdersMadeOne> look) {
        OrdersMadeOne x = new OrdersMadeOne();
        Due.write(x, orders);
        Due.due("run", x.run(0, false, most), end);
        look.accept(x);
        OrdersMadeOne y = new OrdersMadeOne();
        Due.write(y, orders);
        y.choose(2, false);
        y.take();
        y.pack(0);
        Due.due("packed run", y.run(-7, true, most), end);
        look.accept(y);
    }

    private static void pile(int[] orders, int... numbers) {
        bothWays(orders, 20000, 0, x -> Due.duePile("pile", x, numbers));
    }

    private static void dueArguments(int kind, int least, int most) {
        for (int argument : new int[] {least, most}) {
            OrdersMadeOne x = new OrdersMadeOne();
            x.program();
            Due.due("order " + kind + " " + argument, x.order(0, kind, argument), 0);
            Due.due("it has " + argument, x.tell(0, 0, 1), argument);
        }
        for (int argument : new int[] {least - 1, most + 1, Integer.MIN_VALUE, Integer.MAX_VALUE}) {
            Whole.refused("order " + kind + " " + argument, Whole.State.MIDST, x -> x.order(1, kind, argument), -1);
        }
    }

    private static void kinds() {
        Due.about("ORDERS: 0 push n .. 15 more r");
        OrdersMadeOne x = new OrdersMadeOne();
        x.program();
        for (int kind = 0; kind < 16; kind++) {
            Due.due("order of kind " + kind, x.order(0, kind, 0), kind);
            Due.due("its kind", x.tell(0, kind, 0), kind);
        }
        for (int kind : new int[] {Integer.MIN_VALUE, -1, 16, 17, 31, 32, 256, Integer.MAX_VALUE}) {
            Whole.refused("order of kind " + kind, Whole.State.MIDST, y -> y.order(1, kind, 0), -1);
        }
    }

    private static void pushes() {
        Due.about("push n (n -128 .. 127)");
        dueArguments(Due.PUSH, -128, 127);
        pile(Due.row(Due.PUSH, -128, Due.PUSH, 127, Due.PUSH, -1), -128, 127, -1);
    }

    private static void registers() {
        Due.about("register r, 0 .. 7");
        dueArguments(Due.GET, 0, 7);
        dueArguments(Due.SET, 0, 7);
        dueArguments(Due.MORE, 0, 7);
        int[] orders = {};
        for (int r = 0; r < 8; r++) {
            orders = Due.behind(orders, Due.PUSH, 10 * r, Due.SET, r);
        }
        orders = Due.behind(orders, Due.MORE, 7, Due.MORE, 0, Due.GET, 7, Due.GET, 0, Due.GET, 6);
        bothWays(orders, 100, 0, x -> {
            Due.duePile("what get gets", x, 71, 1, 60);
            int[] want = {1, 10, 20, 30, 40, 50, 60, 71};
            for (int r = 0; r < 8; r++) {
                Due.due("register " + r, x.had(2, r), want[r]);
            }
        });
    }

    private static void placesToLeadTo() {
        Due.about("t is a place 0 .. 39");
        dueArguments(Due.GO, 0, 39);
        dueArguments(Due.IF, 0, 39);
        int[] toTheLast = Due.behind(Due.behind(Due.row(Due.GO, 39), Due.times(38, Due.PUSH, 1)), Due.PUSH, 9);
        bothWays(toTheLast, 100, 0, x -> Due.duePile("go to the last place", x, 9));
        bothWays(Due.row(Due.GO, 0), 7, 3, x -> Due.dueDone("go to the first place", x, 7, 0));
        bothWays(Due.row(Due.PUSH, 0, Due.IF, 0), 7, 3, x -> Due.dueDone("if to the first place", x, 7, 1));
    }

    private static void whichHaveAnArgument() {
        Due.about("push, get, set, go, if, more have an ARGUMENT");
        for (int kind = 0; kind < 16; kind++) {
            boolean has = kind == Due.PUSH || kind == Due.GET || kind == Due.SET || kind == Due.GO || kind == Due.IF
                || kind == Due.MORE;
            OrdersMadeOne x = new OrdersMadeOne();
            x.program();
            Due.due("order " + kind + " with 1", x.order(0, kind, 1), has ? 0 : Due.NONE);
            Due.due("order " + kind + " with 0", x.order(0, kind, 0), has ? 1 : 0);
            x.pack(0);
            Due.due("bytes of " + kind, x.count(3), has ? 4 : 1);
        }
    }

    private static void take() {
        Due.about("take (the second less the top)");
        pile(Due.row(Due.PUSH, -128, Due.PUSH, 127, Due.TAKE, 0), -255);
        pile(Due.row(Due.PUSH, 127, Due.PUSH, -128, Due.TAKE, 0), 255);
        pile(Due.row(Due.PUSH, 1, Due.PUSH, 3, Due.PUSH, 3, Due.TAKE, 0), 1, 0);
    }

    private static void turn() {
        Due.about("turn (the upper two change places)");
        pile(Due.row(Due.PUSH, 1, Due.PUSH, 2, Due.TURN, 0), 2, 1);
        pile(Due.row(Due.PUSH, 1, Due.PUSH, 2, Due.PUSH, 3, Due.TURN, 0), 1, 3, 2);
    }

    private static void ifAtZero() {
        Due.about("if t (the top goes; if it is 0 the way goes to t)");
        int[][] tops = {{Due.PUSH, 1}, {Due.PUSH, -1}, Due.LEAST_NUMBER, Due.GREATEST_NUMBER,
            {Due.PUSH, 16, Due.TWICE, 0, Due.TIMES, 0}, {Due.PUSH, 64, Due.PUSH, 64, Due.TIMES, 0, Due.PUSH, 16,
                Due.TIMES, 0}};
        for (int[] top : tops) {
            int next = top.length / 2 + 1;
            pile(Due.behind(top, Due.IF, next + 1, Due.PUSH, 7, Due.PUSH, 8), 7, 8);
        }
        pile(Due.row(Due.PUSH, 5, Due.PUSH, 0, Due.IF, 4, Due.PUSH, 7, Due.PUSH, 8), 5, 8);
        pile(Due.row(Due.PUSH, 5, Due.PUSH, 0, Due.IF, 3, Due.PUSH, 7), 5, 7);
    }

    private static void less() {
        Due.about("less (1 if the second was less than the top, else 0)");
        pile(Due.row(Due.PUSH, 2, Due.PUSH, 3, Due.LESS, 0), 1);
        pile(Due.row(Due.PUSH, 3, Due.PUSH, 3, Due.LESS, 0), 0);
        pile(Due.row(Due.PUSH, 4, Due.PUSH, 3, Due.LESS, 0), 0);
        pile(Due.row(Due.PUSH, -1, Due.PUSH, 0, Due.LESS, 0), 1);
        // Their difference goes around, which is not asked.
        int[] both = Due.behind(Due.LEAST_NUMBER, Due.GREATEST_NUMBER);
        pile(Due.behind(both, Due.LESS, 0), 1);
        pile(Due.behind(both, Due.TURN, 0, Due.LESS, 0), 0);
        pile(Due.behind(Due.LEAST_NUMBER, Due.TWICE, 0, Due.LESS, 0), 0);
    }

    private static void numbersGoAround() {
        Due.about("Numbers have 32 bits and go around.");
        int least = Integer.MIN_VALUE;
        int most = Integer.MAX_VALUE;
        pile(Due.LEAST_NUMBER, least);
        pile(Due.GREATEST_NUMBER, most);
        pile(Due.behind(Due.GREATEST_NUMBER, Due.PUSH, 1, Due.ADD, 0), least);
        pile(Due.behind(Due.LEAST_NUMBER, Due.PUSH, -1, Due.ADD, 0), most);
        pile(Due.behind(Due.LEAST_NUMBER, Due.TWICE, 0, Due.ADD, 0), 0);
        pile(Due.behind(Due.LEAST_NUMBER, Due.PUSH, 1, Due.TAKE, 0), most);
        pile(Due.behind(Due.GREATEST_NUMBER, Due.PUSH, -1, Due.TAKE, 0), least);
        pile(Due.behind(Due.row(Due.PUSH, 0), Due.behind(Due.LEAST_NUMBER, Due.TAKE, 0)), least);
        pile(Due.behind(Due.LEAST_NUMBER, Due.PUSH, -1, Due.TIMES, 0), least);
        pile(Due.behind(Due.GREATEST_NUMBER, Due.TWICE, 0, Due.TIMES, 0), 1);
        pile(Due.behind(Due.GREATEST_NUMBER, Due.PUSH, 2, Due.TIMES, 0), -2);
        // They go out, and into registers, whole.
        bothWays(Due.behind(Due.LEAST_NUMBER, Due.TWICE, 0, Due.SET, 0, Due.OUT, 0), 100, 0, x -> {
            Due.dueOut("whole", x, least);
            Due.due("register", x.had(2, 0), least);
        });
    }

    private static void moreGoesAround() {
        Due.about("more r (register r becomes one more); numbers go around");
        pile(Due.behind(Due.GREATEST_NUMBER, Due.SET, 7, Due.MORE, 7, Due.GET, 7), Integer.MIN_VALUE);
        pile(Due.row(Due.PUSH, -1, Due.SET, 0, Due.MORE, 0, Due.GET, 0), 0);
        pile(Due.row(Due.MORE, 5, Due.GET, 5, Due.GET, 4, Due.GET, 6), 1, 0, 0);
    }

    private static void atMostThreePrograms() {
        Due.about("PROGRAMS, at most 3, from 0 on");
        OrdersMadeOne x = new OrdersMadeOne();
        for (int k = 0; k < 3; k++) {
            Due.due("it is not there yet", x.order(k, Due.REST, 0), Due.NONE);
            Due.due("program", x.program(), k);
            Due.due("now it is", x.order(k, Due.REST, 0), 0);
        }
        Due.due("a fourth", x.program(), Due.NONE);
        Due.due("order of a fourth", x.order(3, Due.REST, 0), Due.NONE);
    }

    private static void atMostFortyOrders() {
        Due.about("have at most 40 ORDERS, at places from 0 on");
        for (int program = 0; program < 3; program++) {
            OrdersMadeOne x = new OrdersMadeOne();
            x.program();
            x.program();
            x.program();
            for (int place = 0; place < 40; place++) {
                Due.due("order", x.order(program, Due.MORE, place % 8), place);
            }
            Due.due("one more", x.order(program, Due.MORE, 0), Due.NONE);
            Due.due("and again", x.order(program, Due.MORE, 0), Due.NONE);
            Due.due("orders", x.count(10 + program), 40);
            Due.due("the last one", x.tell(program, 39, 1), 7);
            Due.due("behind it", x.tell(program, 40, 1), Due.NONE);
            Due.due("run", x.run(program, false, 100), 0);
            Due.dueDone("all forty", x, 40, 40);
            Due.due("register 7", x.had(2, 7), 5);
        }
    }

    private static void aRunBeginsAnew() {
        Due.about("A RUN begins at place 0 with an empty pile, registers and nothing out");
        int[] orders = {Due.GET, 2, Due.PUSH, 4, Due.SET, 2, Due.PUSH, 5, Due.OUT, 0, Due.MORE, 3, Due.HALT, 0};
        OrdersMadeOne x = new OrdersMadeOne();
        Due.write(x, orders);
        x.join(3, Due.GET, Due.PUSH, Due.SET, 0);
        x.pack(0);
        for (int k = 0; k < 4; k++) {
            Due.due("run", x.run(0, k % 2 == 1, 100), 0);
            Due.duePile("run " + k, x, 0);
            Due.dueOut("run " + k, x, 5);
            Due.due("register 3", x.had(2, 3), 1);
            Due.dueDone("run " + k, x, 7, 6);
        }
        for (int k = 0; k < 2; k++) {
            Due.due("run of no orders", x.run(0, k == 1, 0), 3);
            Due.duePile("nothing done", x);
            Due.dueOut("nothing done", x);
            Due.due("register 2", x.had(2, 2), 0);
            Due.due("register 3", x.had(2, 3), 0);
            Due.dueDone("nothing done", x, 0, 0);
        }
    }

    private static void endsByHalt() {
        Due.about("It ENDS: 0 by halt");
        bothWays(Due.row(Due.HALT, 0), 100, 0, x -> Due.dueDone("at once", x, 1, 0));
        bothWays(Due.row(Due.PUSH, 3, Due.HALT, 0, Due.PUSH, 4), 100, 0, x -> {
            Due.dueDone("in the midst", x, 2, 1);
            Due.duePile("in the midst", x, 3);
        });
        int[] last = Due.behind(Due.times(39, Due.REST, 0), Due.HALT, 0);
        bothWays(last, 100, 0, x -> Due.dueDone("at the last place", x, 40, 39));
        int[] full = Due.behind(Due.times(24, Due.PUSH, 1), Due.HALT, 0);
        bothWays(full, 100, 0, x -> Due.dueDone("with a full pile", x, 25, 24));
    }

    private static void endsWhereThereIsNoOrder() {
        Due.about("0 .. at a place at which there is no ORDER");
        bothWays(Due.row(), 100, 0, x -> Due.dueDone("no orders", x, 0, 0));
        bothWays(Due.row(Due.PUSH, 3), 100, 0, x -> Due.dueDone("behind the only one", x, 1, 1));
        bothWays(Due.times(40, Due.REST, 0), 100, 0, x -> Due.dueDone("behind forty", x, 40, 40));
        bothWays(Due.row(Due.GO, 1), 100, 0, x -> Due.dueDone("go just behind", x, 1, 1));
        bothWays(Due.row(Due.GO, 39), 100, 0, x -> Due.dueDone("go far behind", x, 1, 39));
        bothWays(Due.row(Due.PUSH, 0, Due.IF, 2), 100, 0, x -> Due.dueDone("if just behind", x, 2, 2));
        bothWays(Due.row(Due.PUSH, 0, Due.IF, 39), 100, 0, x -> Due.dueDone("if far behind", x, 2, 39));
        bothWays(Due.row(Due.PUSH, 1, Due.IF, 39), 100, 0, x -> Due.dueDone("if that does not go", x, 2, 2));
    }

    private static void askedAheadOfAllElse() {
        Due.about("at a place at which there is no ORDER (asked ahead of all else)");
        bothWays(Due.row(), 0, 0, x -> Due.dueDone("none told, none there", x, 0, 0));
        bothWays(Due.row(Due.REST, 0), 1, 0, x -> Due.dueDone("one told, one there", x, 1, 1));
        bothWays(Due.row(Due.GO, 20), 1, 0, x -> Due.dueDone("one told, that leads away", x, 1, 20));
        bothWays(Due.times(40, Due.REST, 0), 40, 0, x -> Due.dueDone("forty told, forty there", x, 40, 40));
        bothWays(Due.times(24, Due.PUSH, 1), 24, 0, x -> Due.dueDone("and the pile is full", x, 24, 24));
    }

    private static void wantsMoreThanThePileHas() {
        Due.about("1 if an ORDER wants more than the pile has");
        for (int kind = 0; kind < 16; kind++) {
            for (int has = 0; has < 3; has++) {
                int[] orders = Due.behind(Due.times(has, Due.PUSH, 5), kind, 0);
                int done = has;
                boolean ends = has < WANTS[kind];
                // With as many as there are, and no more, told it would end as 3, but for halt and for an end.
                bothWays(orders, has + 1, ends ? 1 : kind == Due.GO ? 3 : 0, x -> {
                    Due.due("kind " + x.tell(0, done, 0) + " with " + done, x.ran(0), ends ? done : done + 1);
                });
            }
        }
    }

    private static void moreThan24OnThePile() {
        Due.about("2 if the pile would have more than 24");
        int[] leaves = {25, 23, 23, 23, 25, 24, 23, 25, 23, 24, 23, 23, 23, 24, 24, 24};
        int[] full = Due.times(24, Due.PUSH, 6);
        for (int kind = 0; kind < 16; kind++) {
            boolean ends = leaves[kind] > 24;
            int argument = kind == Due.GO || kind == Due.IF ? 30 : 0;
            int left = Math.min(24, leaves[kind]);
            bothWays(Due.behind(full, kind, argument), 100, ends ? 2 : 0,
                x -> Due.due("kind at 24", x.ran(2), left));
        }
        for (int kind : new int[] {Due.PUSH, Due.TWICE, Due.GET}) {
            bothWays(Due.behind(Due.times(23, Due.PUSH, 6), kind, 0), 100, 0,
                x -> Due.due("kind at 23", x.ran(2), 24));
        }
    }

    private static void moreThan40Out() {
        Due.about("2 if .. more than 40 would be out");
        int[] on = {Due.MORE, 0, Due.GET, 0, Due.OUT, 0, Due.GO, 0};
        bothWays(on, 40 * 4, 3, x -> Due.due("forty out", x.ran(3), 40));
        bothWays(on, 20000, 2, x -> {
            Due.due("forty out", x.ran(3), 40);
            Due.due("the first", x.had(1, 0), 1);
            Due.due("the last", x.had(1, 39), 40);
            Due.due("behind it", x.had(1, 40), 0);
            Due.duePile("it stays on the pile", x, 41);
            Due.dueDone("where it ends", x, 162, 2);
        });
    }

    private static void asManyAsWereTold() {
        Due.about("3 if as many ORDERS were done as were told for it (at most)");
        int[] orders = {Due.PUSH, 7, Due.OUT, 0, Due.PUSH, 8, Due.OUT, 0, Due.ADD, 0};
        int[] out = {0, 0, 1, 1, 2};
        for (int most = 0; most < 5; most++) {
            int told = most;
            bothWays(orders, most, 3, x -> {
                Due.dueDone("told " + told, x, told, told);
                Due.due("out", x.ran(3), out[told]);
            });
        }
        bothWays(orders, 5, 1, x -> Due.dueDone("one more: what it wants", x, 4, 4));
        bothWays(Due.row(Due.REST, 0, Due.HALT, 0), 1, 3, x -> Due.dueDone("ahead of halt", x, 1, 1));
        bothWays(Due.row(Due.REST, 0, Due.HALT, 0), 2, 0, x -> Due.dueDone("halt is the last", x, 2, 1));
        bothWays(Due.times(25, Due.PUSH, 1), 24, 3, x -> Due.dueDone("ahead of a full pile", x, 24, 24));
        bothWays(Due.times(25, Due.PUSH, 1), 25, 2, x -> Due.dueDone("at a full pile", x, 24, 24));
        bothWays(Due.row(Due.MORE, 0, Due.GO, 0), 20000, 3, x -> {
            Due.dueDone("the most", x, 20000, 0);
            Due.due("register", x.had(2, 0), 10000);
        });
        bothWays(Due.row(Due.MORE, 0, Due.GO, 0), 19999, 3, x -> Due.dueDone("one less", x, 19999, 1));
    }

    /** What a RUN ENDS by is as if as many ORDERS had been told as were done. */
    private static void dueUnchanged(String what, int[] orders, int done, int end) {
        OrdersMadeOne x = new OrdersMadeOne();
        OrdersMadeOne y = new OrdersMadeOne();
        Due.write(x, orders);
        Due.write(y, orders);
        Due.due(what + ": short of it", x.run(0, false, done), 3);
        Due.due(what, y.run(0, false, 20000), end);
        for (int part : new int[] {0, 2, 3, 4}) {
            Due.due(what + ": ran " + part, y.ran(part), x.ran(part));
        }
        for (int k = 0; k < 40; k++) {
            for (int part = 0; part < 3; part++) {
                Due.due(what + ": had " + part + " " + k, y.had(part, k), x.had(part, k));
            }
        }
    }

    private static void changesNothing() {
        Due.about("An ORDER by which it ENDS as 1 or 2 changes nothing");
        for (int kind = 0; kind < 16; kind++) {
            for (int has = 0; has < WANTS[kind]; has++) {
                int[] orders = Due.behind(Due.times(8, Due.MORE, 0), Due.PUSH, 3, Due.OUT, 0, Due.PUSH, 4, Due.SET, 1);
                orders = Due.behind(orders, Due.times(has, Due.PUSH, 9));
                dueUnchanged("kind " + kind + " with " + has, Due.behind(orders, kind, 0), 12 + has, 1);
            }
        }
        int[] full = Due.behind(Due.row(Due.MORE, 0), Due.times(23, Due.PUSH, 2));
        for (int kind : new int[] {Due.PUSH, Due.TWICE, Due.GET}) {
            dueUnchanged("kind " + kind + " with 24", Due.behind(full, Due.PUSH, 3, kind, 0, Due.PUSH, 1), 25, 2);
        }
        dueUnchanged("out with 40", Due.row(Due.MORE, 0, Due.GET, 0, Due.OUT, 0, Due.GO, 0), 162, 2);
    }

    private static void wasNotDone() {
        Due.about("An ORDER by which it ENDS as 1 or 2 .. was not done");
        OrdersMadeOne x = new OrdersMadeOne();
        Due.write(x, Due.PUSH, 1, Due.ADD, 0);
        Due.write(x, Due.behind(Due.times(24, Due.PUSH, 1), Due.GET, 0));
        Due.write(x, Due.MORE, 0, Due.GET, 0, Due.OUT, 0, Due.GO, 0);
        int[] ends = {1, 2, 2};
        int[] places = {1, 24, 2};
        int[] done = {1, 24, 162};
        for (int program = 0; program < 3; program++) {
            Due.due("end", x.run(program, false, 1000), ends[program]);
            Due.dueDone("program " + program, x, done[program], places[program]);
            Due.due("orders begun, that one too", x.ran(1), done[program] + 1);
            Due.due("times", x.tell(program, places[program], 2), program == 2 ? 40 : 0);
        }
        Due.due("cost by runs", x.cost(true), 1 + 24 + 162);
    }

    private static void haltWas() {
        Due.about("halt was [done]");
        bothWays(Due.row(Due.PUSH, 0, Due.HALT, 0), 100, 0, x -> Due.due("done", x.ran(0), 2));
        OrdersMadeOne x = new OrdersMadeOne();
        Due.write(x, Due.PUSH, 0, Due.HALT, 0);
        x.run(0, false, 100);
        Due.due("times of halt", x.tell(0, 1, 2), 1);
        Due.due("cost by runs", x.cost(true), 2);
        x.run(0, false, 1);
        Due.due("times of halt when it is not reached", x.tell(0, 1, 2), 0);
    }
}
