/** Promises 12 to 14. */
public final class RunTest {
    public static void main(String[] args) {
        whatOrdersDo();
        numbersGoAround();
        wantsMoreThanThePileHas();
        tooManyOnThePile();
        fullPileAndOtherKinds();
        tooManyOut();
        whereItEnds();
        asManyAsWereTold();
        packedOnes();
        packedAsItWasThen();
        timesOfOrders();
        wrongOnes();
        Due.end();
    }

    /** What lies on the pile behind a run of these orders, the lowest first. */
    private static void pile(String what, int[] orders, int... want) {
        OrdersMadeOne x = new OrdersMadeOne();
        Due.write(x, orders);
        Due.due(what + ": end", x.run(0, false, 1000), 0);
        Due.due(what + ": pile", x.ran(2), want.length);
        for (int k = 0; k < want.length; k++) {
            Due.due(what + ": number " + k, x.had(0, k), want[k]);
        }
        Due.due(what + ": above", x.had(0, want.length), 0);
    }

    private static void whatOrdersDo() {
        pile("push", Due.row(Due.PUSH, -128, Due.PUSH, 127), -128, 127);
        pile("add", Due.row(Due.PUSH, 9, Due.PUSH, 5, Due.PUSH, 3, Due.ADD, 0), 9, 8);
        pile("take", Due.row(Due.PUSH, 9, Due.PUSH, 5, Due.PUSH, 3, Due.TAKE, 0), 9, 2);
        pile("times", Due.row(Due.PUSH, 9, Due.PUSH, 5, Due.PUSH, -3, Due.TIMES, 0), 9, -15);
        pile("twice", Due.row(Due.PUSH, 9, Due.TWICE, 0), 9, 9);
        pile("turn", Due.row(Due.PUSH, 1, Due.PUSH, 2, Due.PUSH, 3, Due.TURN, 0), 1, 3, 2);
        pile("drop", Due.row(Due.PUSH, 1, Due.PUSH, 2, Due.DROP, 0), 1);
        pile("less", Due.row(Due.PUSH, 1, Due.PUSH, 2, Due.LESS, 0), 1);
        pile("less, alike", Due.row(Due.PUSH, 2, Due.PUSH, 2, Due.LESS, 0), 0);
        pile("less, greater", Due.row(Due.PUSH, 2, Due.PUSH, -2, Due.LESS, 0), 0);
        pile("none", Due.row(Due.REST, 0));
        pile("set and get", Due.row(Due.PUSH, 5, Due.SET, 7, Due.GET, 7, Due.GET, 0), 5, 0);
        pile("more", Due.row(Due.MORE, 3, Due.MORE, 3, Due.GET, 3), 2);
        pile("go", Due.row(Due.GO, 2, Due.PUSH, 1, Due.PUSH, 2), 2);
        pile("if 0", Due.row(Due.PUSH, 0, Due.IF, 3, Due.PUSH, 1, Due.PUSH, 2), 2);
        pile("if not 0", Due.row(Due.PUSH, -1, Due.IF, 3, Due.PUSH, 1, Due.PUSH, 2), 1, 2);
        pile("halt", Due.row(Due.PUSH, 1, Due.HALT, 0, Due.PUSH, 2), 1);
        OrdersMadeOne x = new OrdersMadeOne();
        Due.write(x, Due.PUSH, 4, Due.OUT, 0, Due.PUSH, 6, Due.OUT, 0, Due.PUSH, 8, Due.SET, 2, Due.MORE, 2);
        Due.due("run", x.run(0, false, 20000), 0);
        Due.due("pile", x.ran(2), 0);
        Due.due("out", x.ran(3), 2);
        Due.due("first out", x.had(1, 0), 4);
        Due.due("second out", x.had(1, 1), 6);
        Due.due("register", x.had(2, 2), 9);
        Due.due("another run", x.run(0, false, 1), 3);
        Due.due("begins anew: out", x.ran(3), 0);
        Due.due("begins anew: out", x.had(1, 0), 0);
        Due.due("begins anew: register", x.had(2, 2), 0);
    }

    private static void numbersGoAround() {
        // 2 squared four times is 2^16, and 64 * 64 * 8 is 2^15: together the least number, less 1 the greatest.
        pile("times and add", Due.row(Due.PUSH, 2, Due.TWICE, 0, Due.TIMES, 0, Due.TWICE, 0, Due.TIMES, 0,
            Due.TWICE, 0, Due.TIMES, 0, Due.TWICE, 0, Due.TIMES, 0, Due.PUSH, 64, Due.TWICE, 0, Due.TIMES, 0,
            Due.PUSH, 8, Due.TIMES, 0, Due.TIMES, 0, Due.TWICE, 0, Due.PUSH, 1, Due.TAKE, 0, Due.TWICE, 0,
            Due.SET, 0, Due.MORE, 0, Due.GET, 0, Due.TWICE, 0, Due.TWICE, 0, Due.ADD, 0),
            Integer.MIN_VALUE, Integer.MAX_VALUE, Integer.MIN_VALUE, 0);
    }

    private static void wantsMoreThanThePileHas() {
        int[] wants = {0, 2, 2, 2, 1, 2, 1, 0, 1, 0, 1, 2, 1, 0, 0, 0};
        for (int kind = 0; kind < 16; kind++) {
            for (int has = 0; has < 3; has++) {
                OrdersMadeOne x = new OrdersMadeOne();
                x.program();
                for (int k = 0; k < has; k++) {
                    Due.add(x, 0, Due.PUSH, 50 + k);
                }
                Due.add(x, 0, kind, 0);
                if (kind == Due.GO || kind == Due.IF) {
                    x.change(0, has, 30);
                }
                String what = "kind " + kind + " with " + has;
                boolean ends = has < wants[kind];
                Due.due(what, x.run(0, false, 100), ends ? 1 : 0);
                Due.due(what + ": done", x.ran(0), ends ? has : has + 1);
                Due.due(what + ": begun", x.ran(1), has + 1);
                Due.due(what + ": times", x.tell(0, has, 2), ends ? 0 : 1);
                if (ends) {
                    Due.due(what + ": place", x.ran(4), has);
                    Due.due(what + ": pile", x.ran(2), has);
                    Due.due(what + ": top", x.had(0, has - 1), has > 0 ? 50 + has - 1 : 0);
                }
            }
        }
    }

    private static void tooManyOnThePile() {
        int[][] puts = {{Due.PUSH, 3}, {Due.TWICE, 0}, {Due.GET, 1}};
        for (int[] put : puts) {
            OrdersMadeOne x = new OrdersMadeOne();
            x.program();
            for (int k = 0; k < 24; k++) {
                Due.add(x, 0, Due.PUSH, k);
            }
            Due.add(x, 0, Due.TURN, 0);
            Due.due("24 on the pile", x.run(0, false, 100), 0);
            Due.add(x, 0, put);
            Due.due("25 on the pile", x.run(0, false, 100), 2);
            Due.due("done", x.ran(0), 25);
            Due.due("begun", x.ran(1), 26);
            Due.due("pile", x.ran(2), 24);
            Due.due("place", x.ran(4), 25);
            Due.due("top", x.had(0, 23), 22);
            Due.due("above", x.had(0, 24), 0);
            Due.due("times", x.tell(0, 25, 2), 0);
        }
    }

    private static void fullPileAndOtherKinds() {
        int[] left = {0, 23, 23, 23, 0, 24, 23, 0, 23, 24, 23, 23, 23, 24, 24, 24};
        for (int kind = 0; kind < 16; kind++) {
            OrdersMadeOne x = new OrdersMadeOne();
            x.program();
            for (int k = 1; k <= 24; k++) {
                Due.add(x, 0, Due.PUSH, k);
            }
            x.order(0, kind, 0);
            if (kind == Due.GO || kind == Due.IF) {
                x.change(0, 24, 30);
            }
            boolean puts = left[kind] == 0;
            Due.due("24 on the pile, then " + kind, x.run(0, false, 100), puts ? 2 : 0);
            Due.due("pile behind " + kind, x.ran(2), puts ? 24 : left[kind]);
        }
    }

    private static void tooManyOut() {
        OrdersMadeOne x = new OrdersMadeOne();
        Due.write(x, Due.MORE, 0, Due.GET, 0, Due.OUT, 0, Due.GO, 0);
        Due.due("41 out", x.run(0, false, 1000), 2);
        Due.due("out", x.ran(3), 40);
        Due.due("the last one", x.had(1, 39), 40);
        Due.due("behind", x.had(1, 40), 0);
        Due.due("pile", x.had(0, 0), 41);
        Due.due("place", x.ran(4), 2);
        Due.due("done", x.ran(0), 162);
        Due.due("begun", x.ran(1), 163);
        Due.due("times", x.tell(0, 2, 2), 40);
        Due.due("times", x.tell(0, 1, 2), 41);
        // Forty out and an empty pile: there is none that could go out.
        OrdersMadeOne y = new OrdersMadeOne();
        Due.write(y, Due.MORE, 0, Due.GET, 0, Due.OUT, 0, Due.GET, 0, Due.PUSH, 40, Due.LESS, 0, Due.IF, 8,
            Due.GO, 0, Due.OUT, 0);
        Due.due("out of an empty pile", y.run(0, false, 1000), 1);
        Due.due("out", y.ran(3), 40);
    }

    private static void whereItEnds() {
        OrdersMadeOne x = new OrdersMadeOne();
        x.program();
        Due.due("no orders", x.run(0, false, 0), 0);
        Due.due("done", x.ran(0), 0);
        Due.due("begun", x.ran(1), 0);
        Due.due("place", x.ran(4), 0);
        Due.write(x, Due.REST, 0, Due.HALT, 0, Due.REST, 0);
        Due.due("halt", x.run(1, false, 2), 0);
        Due.due("done", x.ran(0), 2);
        Due.due("begun", x.ran(1), 2);
        Due.due("place", x.ran(4), 1);
        Due.due("halt was done", x.tell(1, 1, 2), 1);
        Due.write(x, Due.REST, 0, Due.GO, 39);
        Due.due("a way that leads behind", x.run(2, false, 2), 0);
        Due.due("place", x.ran(4), 39);
        x.change(2, 1, 2);
        Due.due("just behind the last", x.run(2, false, 2), 0);
        Due.due("place", x.ran(4), 2);
    }

    private static void asManyAsWereTold() {
        OrdersMadeOne x = new OrdersMadeOne();
        Due.write(x, Due.REST, 0, Due.REST, 0, Due.ADD, 0);
        Due.due("none told", x.run(0, false, 0), 3);
        Due.due("done", x.ran(0), 0);
        Due.due("begun", x.ran(1), 0);
        Due.due("place", x.ran(4), 0);
        Due.due("two told, ahead of what the third would want", x.run(0, false, 2), 3);
        Due.due("done", x.ran(0), 2);
        Due.due("begun", x.ran(1), 2);
        Due.due("place", x.ran(4), 2);
        Due.due("three told", x.run(0, false, 3), 1);
        Due.write(x, Due.GO, 0);
        Due.due("on and on", x.run(1, false, 20000), 3);
        Due.due("done", x.ran(0), 20000);
        Due.due("times", x.tell(1, 0, 2), 20000);
        Due.write(x, Due.REST, 0);
        Due.due("its end is asked first", x.run(2, false, 1), 0);
        Due.due("place", x.ran(4), 1);
    }

    private static void packedOnes() {
        OrdersMadeOne x = new OrdersMadeOne();
        // Counts register 0 to 3 and puts each number out.
        Due.write(x, Due.MORE, 0, Due.GET, 0, Due.TWICE, 0, Due.OUT, 0, Due.PUSH, 3, Due.TAKE, 0, Due.IF, 8,
            Due.GO, 0, Due.HALT, 0);
        x.join(4, Due.MORE, Due.GET, Due.TWICE, Due.OUT);
        x.join(3, Due.PUSH, Due.TAKE, Due.IF, 0);
        Due.due("pack", x.pack(0), 4);
        Due.due("run", x.run(0, true, 1000), 0);
        Due.due("orders done", x.ran(0), 24);
        Due.due("codes begun", x.ran(1), 9);
        Due.due("out", x.ran(3), 3);
        Due.due("third", x.had(1, 2), 3);
        Due.due("place", x.ran(4), 8);
        Due.due("a packed run does not count for orders", x.tell(0, 0, 2), 0);
        int[] most = {0, 1, 3, 4, 5, 7, 8, 9};
        int[] begun = {0, 1, 1, 1, 2, 2, 3, 4};
        for (int k = 0; k < most.length; k++) {
            Due.due("packed, at most " + most[k], x.run(0, true, most[k]), 3);
            Due.due("done", x.ran(0), most[k]);
            Due.due("codes begun of " + most[k], x.ran(1), begun[k]);
            Due.due("place", x.ran(4), most[k] == 8 ? 0 : most[k] == 9 ? 1 : most[k]);
        }
        Due.write(x, Due.REST, 0, Due.ADD, 0, Due.REST, 0);
        x.join(3, Due.REST, Due.ADD, Due.REST, 0);
        x.pack(1);
        Due.due("ends in the midst of a code", x.run(-5, true, 10), 1);
        Due.due("codes begun", x.ran(1), 1);
        Due.due("orders done", x.ran(0), 1);
        Due.due("place", x.ran(4), 1);
        x.part();
        x.pack(1);
        Due.due("ends at the beginning of a code", x.run(7, true, 10), 1);
        Due.due("codes begun, that one too", x.ran(1), 2);
    }

    private static void packedAsItWasThen() {
        OrdersMadeOne x = new OrdersMadeOne();
        Due.write(x, Due.PUSH, 5, Due.OUT, 0);
        x.join(2, Due.PUSH, Due.OUT, 0, 0);
        x.pack(0);
        x.part();
        x.change(0, 0, 6);
        x.order(0, Due.ADD, 0);
        Due.due("packed", x.run(0, true, 10), 0);
        Due.due("as it was then", x.had(1, 0), 5);
        Due.due("codes begun", x.ran(1), 1);
        Due.due("not packed", x.run(0, false, 10), 1);
        Due.due("as it is now", x.had(1, 0), 6);
        Due.due("orders begun", x.ran(1), 3);
    }

    private static void timesOfOrders() {
        OrdersMadeOne x = new OrdersMadeOne();
        Due.write(x, Due.MORE, 0, Due.PUSH, 2, Due.GET, 0, Due.LESS, 0, Due.IF, 0, Due.HALT, 0);
        x.run(0, false, 1000);
        int[] times = {3, 3, 3, 3, 3, 1};
        for (int place = 0; place < times.length; place++) {
            Due.due("times of " + place, x.tell(0, place, 2), times[place]);
        }
        x.pack(0);
        x.run(0, true, 2);
        Due.due("packed ones do not count", x.tell(0, 0, 2), 3);
        x.run(0, false, 2);
        Due.due("the latest run alone", x.tell(0, 0, 2), 1);
        Due.due("the latest run alone", x.tell(0, 2, 2), 0);
        Due.due("a run that can't be", x.run(0, false, 20001), Due.NONE);
        Due.due("changes nothing", x.tell(0, 0, 2), 1);
    }

    private static void wrongOnes() {
        OrdersMadeOne x = new OrdersMadeOne();
        Due.write(x, Due.PUSH, 5);
        x.pack(0);
        x.run(0, false, 10);
        for (int odd : Due.ODD) {
            if (odd != 0) {
                Due.due("run " + odd, x.run(odd, false, 10), Due.NONE);
                Due.due("had pile " + odd, x.had(0, odd), 0);
            }
            if (odd < 0 || odd > 20000) {
                Due.due("run at most " + odd, x.run(0, false, odd), Due.NONE);
                Due.due("run packed at most " + odd, x.run(0, true, odd), Due.NONE);
            }
            if (odd < 0 || odd > 4) {
                Due.due("ran " + odd, x.ran(odd), Due.NONE);
            }
            if (odd < 0 || odd > 2) {
                Due.due("had what " + odd, x.had(odd, 0), 0);
            }
            Due.due("had out " + odd, x.had(1, odd), 0);
            Due.due("had register " + odd, x.had(2, odd), 0);
        }
        Due.due("the latest run stays", x.had(0, 0), 5);
    }
}
