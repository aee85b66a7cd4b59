/** Promises 2 to 5. */
public final class ProgramTest {
    private static final int[] LEAST = {-128, 0, 0, 0, 0, 0, 0, 0, 0, 0, 0, 0, 0, 0, 0, 0};
    private static final int[] MOST = {127, 0, 0, 0, 0, 0, 0, 7, 7, 39, 39, 0, 0, 0, 0, 7};

    public static void main(String[] args) {
        programs();
        ordersAndTheirArguments();
        atMostForty();
        changes();
        changeForgetsItsRunAlone();
        orderForgetsItsRunAlone();
        whereWaysLead();
        Due.end();
    }

    private static void programs() {
        OrdersMadeOne x = new OrdersMadeOne();
        for (int k = 0; k < 3; k++) {
            Due.due("program", x.program(), k);
            Due.due("its orders", x.count(10 + k), 0);
        }
        Due.due("a fourth program", x.program(), Due.NONE);
        Due.due("programs", x.count(0), 3);
    }

    private static void ordersAndTheirArguments() {
        for (int kind = 0; kind < 16; kind++) {
            for (int argument : Due.ODD) {
                OrdersMadeOne x = new OrdersMadeOne();
                x.program();
                boolean fits = argument >= LEAST[kind] && argument <= MOST[kind];
                String what = "order " + kind + " " + argument;
                Due.due(what, x.order(0, kind, argument), fits ? 0 : Due.NONE);
                Due.due(what + ": kind", x.tell(0, 0, 0), fits ? kind : Due.NONE);
                Due.due(what + ": argument", x.tell(0, 0, 1), fits ? argument : Due.NONE);
                Due.due(what + ": times", x.tell(0, 0, 2), fits ? 0 : Due.NONE);
                Due.due(what + ": another what", x.tell(0, 0, 4), Due.NONE);
                Due.due(what + ": another what", x.tell(0, 0, -1), Due.NONE);
                Due.due(what + ": orders", x.count(10), fits ? 1 : 0);
            }
        }
        OrdersMadeOne x = new OrdersMadeOne();
        x.program();
        for (int odd : Due.ODD) {
            if (odd < 0 || odd > 15) {
                Due.due("order of kind " + odd, x.order(0, odd, 0), Due.NONE);
            }
            if (odd != 0) {
                Due.due("order of program " + odd, x.order(odd, 1, 0), Due.NONE);
            }
            Due.due("tell of no order", x.tell(0, odd, 0), Due.NONE);
            Due.due("change of no order", x.change(0, odd, 0), false);
        }
        Due.due("orders", x.count(10), 0);
    }

    private static void atMostForty() {
        OrdersMadeOne x = new OrdersMadeOne();
        x.program();
        for (int place = 0; place < 40; place++) {
            Due.due("order", x.order(0, Due.PUSH, place), place);
        }
        Due.due("order 41", x.order(0, Due.PUSH, 1), Due.NONE);
        Due.due("orders", x.count(10), 40);
        Due.due("the last one", x.tell(0, 39, 1), 39);
        Due.due("behind it", x.tell(0, 40, 1), Due.NONE);
        Due.due("another program has room", Due.write(x, Due.ADD, 0), 1);
    }

    private static void changes() {
        for (int kind = 0; kind < 16; kind++) {
            for (int argument : Due.ODD) {
                OrdersMadeOne x = new OrdersMadeOne();
                Due.write(x, kind, 0);
                boolean can = MOST[kind] > 0 && argument >= LEAST[kind] && argument <= MOST[kind];
                String what = "change " + kind + " " + argument;
                Due.due(what, x.change(0, 0, argument), can);
                Due.due(what + ": argument", x.tell(0, 0, 1), can ? argument : 0);
                Due.due(what + " behind", x.change(0, 1, argument), false);
                Due.due(what + " ahead", x.change(0, -1, argument), false);
                Due.due(what + " of no program", x.change(1, 0, argument), false);
            }
        }
    }

    private static OrdersMadeOne twoThatRan() {
        OrdersMadeOne x = new OrdersMadeOne();
        Due.write(x, Due.PUSH, 7, Due.OUT, 0);
        Due.write(x, Due.PUSH, 8, Due.ADD, 0);
        x.run(0, false, 100);
        x.run(1, false, 100);
        Due.due("times", x.tell(0, 1, 2), 1);
        Due.due("times", x.tell(1, 0, 2), 1);
        Due.due("times of one not done", x.tell(1, 1, 2), 0);
        return x;
    }

    private static void changeForgetsItsRunAlone() {
        OrdersMadeOne x = twoThatRan();
        Due.due("a change that can't be", x.change(0, 0, 128), false);
        Due.due("times stay", x.tell(0, 0, 2), 1);
        Due.due("a change to the same", x.change(0, 0, 7), true);
        Due.due("times are forgotten", x.tell(0, 0, 2), 0);
        Due.due("times are forgotten", x.tell(0, 1, 2), 0);
        Due.due("those of the other one stay", x.tell(1, 0, 2), 1);
        Due.due("cost by runs", x.cost(true), 1);
        Due.due("the latest run stays", x.ran(2), 1);
        Due.due("the latest run stays", x.had(0, 0), 8);
    }

    private static void orderForgetsItsRunAlone() {
        OrdersMadeOne x = twoThatRan();
        Due.due("an order that can't be", x.order(1, Due.ADD, 1), Due.NONE);
        Due.due("times stay", x.tell(1, 0, 2), 1);
        Due.due("an order", x.order(1, Due.ADD, 0), 2);
        Due.due("times are forgotten", x.tell(1, 0, 2), 0);
        Due.due("those of the other one stay", x.tell(0, 0, 2), 1);
        Due.due("the latest run stays", x.ran(0), 1);
    }

    private static void whereWaysLead() {
        OrdersMadeOne x = new OrdersMadeOne();
        Due.write(x, Due.GO, 2, Due.IF, 2, Due.PUSH, 1, Due.PUSH, 3, Due.GET, 4);
        Due.write(x, Due.PUSH, 0, Due.GO, 39);
        int[] led = {0, 0, 1, 0, 0};
        for (int place = 0; place < led.length; place++) {
            Due.due("led to " + place, x.tell(0, place, 3), led[place]);
        }
        x.change(0, 0, 4);
        Due.due("one of two leads on there", x.tell(0, 2, 3), 1);
        Due.due("and one elsewhere", x.tell(0, 4, 3), 1);
        x.change(0, 1, 0);
        Due.due("none leads there", x.tell(0, 2, 3), 0);
        Due.due("but to the beginning", x.tell(0, 0, 3), 1);
        Due.due("other programs are their own", x.tell(1, 0, 3), 0);
        for (int place = 2; place < 40; place++) {
            x.order(1, Due.REST, 0);
        }
        Due.due("led to ahead of the order", x.tell(1, 39, 3), 1);
        Due.due("not led to", x.tell(1, 38, 3), 0);
    }
}
