/** Promises 9 to 14: a method for each sentence that names an edge, with all calls that it refuses. */
public final class EdgesOfPromises9To14Test {
    private static final int[] BELOW_AND_ABOVE = {Integer.MIN_VALUE, -2, -1, 3, 4, Integer.MAX_VALUE};

    public static void main(String[] args) {
        packByThoseThatThereAre();
        packOfNone();
        codesAsItWasThen();
        codeOfNone();
        codeOfAnotherWhat();
        bytesFrom0To255();
        bytesOfNone();
        runOfThePackedOne();
        programCountsForNothing();
        atMostSoMany();
        runOfNone();
        runOfAnotherNumber();
        ranDone();
        ranBegun();
        ranBegunOfPacked();
        ranPileAndOut();
        ranPlace();
        ranOfNone();
        hadPile();
        hadOut();
        hadRegisters();
        hadOfNone();
        theLatestRun();
        Due.end();
    }

    private static void packByThoseThatThereAre() {
        Due.about("pack: A PROGRAM is PACKED, by the JOINED ORDERS that there are: how many CODES.");
        OrdersMadeOne x = new OrdersMadeOne();
        x.program();
        Due.write(x, Due.times(40, Due.REST, 0));
        Due.due("no orders", x.pack(0), 0);
        Due.due("codes", x.count(2), 0);
        Due.due("bytes", x.count(3), 0);
        Due.due("without rows", x.pack(1), 40);
        Due.due("the last code", x.code(39, 1), 39);
        x.join(4, 14, 14, 14, 14);
        Due.due("with a row", x.pack(1), 10);
        Due.due("the last code", x.code(9, 1), 36);
        Due.due("behind it", x.code(10, 1), Due.NONE);
        x.part();
        Due.due("without it again", x.pack(1), 40);
        x.choose(1, false);
        Due.due("rows that are chosen are none yet", x.pack(1), 40);
        x.take();
        Due.due("when they are taken they are", x.pack(1), 10);
        Due.due("no orders, again", x.pack(0), 0);
        Due.due("nothing is left of the other one", x.code(0, 0), Due.NONE);
        Due.due("nothing is left of the other one", x.bytes(0), Due.NONE);
    }

    private static void packOfNone() {
        Due.about("pack: NONE if there is none such.");
        for (int program : BELOW_AND_ABOVE) {
            Whole.refusedEverywhere("pack " + program, x -> x.pack(program), Due.NONE);
        }
        Whole.refused("pack 0", Whole.State.NEW, x -> x.pack(0), Due.NONE);
        Whole.refused("pack 2", Whole.State.MIDST, x -> x.pack(2), Due.NONE);
    }

    /** A PROGRAM that is PACKED as 16 5, 13, 9 0, whatever becomes of it then. */
    private static OrdersMadeOne packedThenChanged() {
        OrdersMadeOne x = new OrdersMadeOne();
        Due.write(x, Due.PUSH, 5, Due.OUT, 0, Due.HALT, 0, Due.GO, 0);
        x.join(2, Due.PUSH, Due.OUT, 0, 0);
        Due.due("pack", x.pack(0), 3);
        x.change(0, 0, 6);
        x.change(0, 3, 1);
        x.order(0, Due.REST, 0);
        x.part();
        x.join(2, Due.OUT, Due.HALT, 0, 0);
        return x;
    }

    private static void codesAsItWasThen() {
        Due.about("code: Of CODE k of the PROGRAM that was PACKED last, as it was then");
        OrdersMadeOne x = packedThenChanged();
        Due.dueCodes("as it was then", x, 2, 1, 1);
        Due.dueBytes("as it was then", x, 16, 5, 13, 9, 0);
        Due.due("number", x.code(0, 0), 16);
        x.program();
        Due.due("pack of another one", x.pack(1), 0);
        Due.dueCodes("that one is the last", x);
        Due.due("pack anew", x.pack(0), 4);
        Due.dueBytes("as it is now", x, 0, 6, 16, 9, 1, 14);
    }

    private static void codeOfNone() {
        Due.about("code: NONE if there is none such");
        Due.due("the last one is there", Whole.in(Whole.State.MIDST).code(2, 1), 5);
        for (int what = 0; what < 3; what++) {
            int of = what;
            for (int k : new int[] {Integer.MIN_VALUE, -2, -1, 40, 41, Integer.MAX_VALUE}) {
                Whole.refusedEverywhere("code " + k, x -> x.code(k, of), Due.NONE);
            }
            Whole.refused("code 0", Whole.State.NEW, x -> x.code(0, of), Due.NONE);
            Whole.refused("code 3", Whole.State.MIDST, x -> x.code(3, of), Due.NONE);
        }
    }

    private static void codeOfAnotherWhat() {
        Due.about("code: NONE .. for another what");
        for (int what : BELOW_AND_ABOVE) {
            Whole.refusedEverywhere("code 0 " + what, x -> x.code(0, what), Due.NONE);
        }
    }

    private static void bytesFrom0To255() {
        Due.about("bytes: BYTE k of the PROGRAM that was PACKED last, 0 .. 255");
        OrdersMadeOne x = new OrdersMadeOne();
        x.program();
        for (int n = -128; n < -88; n++) {
            x.order(0, Due.PUSH, n);
        }
        x.pack(0);
        for (int k = 0; k < 40; k++) {
            Due.due("number", x.bytes(2 * k), 0);
            Due.due("argument", x.bytes(2 * k + 1), 128 + k);
        }
        x.change(0, 0, -1);
        x.change(0, 39, 127);
        x.pack(0);
        Due.due("the greatest", x.bytes(1), 255);
        Due.due("the last", x.bytes(79), 127);
    }

    private static void bytesOfNone() {
        Due.about("bytes: NONE if there is none such.");
        for (int k : new int[] {Integer.MIN_VALUE, -2, -1, 80, 81, 160, Integer.MAX_VALUE}) {
            Whole.refusedEverywhere("bytes " + k, x -> x.bytes(k), Due.NONE);
        }
        Whole.refused("bytes 0", Whole.State.NEW, x -> x.bytes(0), Due.NONE);
        OrdersMadeOne x = Whole.in(Whole.State.MIDST);
        Due.dueBytes("in the midst", x, 16, 5, 17, 255, 3, 7, 9, 7);
    }

    private static void runOfThePackedOne() {
        Due.about("run: A RUN .. (packed) of the one that was PACKED last, as it was then");
        OrdersMadeOne x = packedThenChanged();
        Due.due("packed", x.run(0, true, 10), 0);
        Due.dueOut("as it was then", x, 5);
        Due.dueDone("as it was then", x, 3, 2);
        Due.due("codes begun", x.ran(1), 2);
        Due.due("not packed", x.run(0, false, 10), 0);
        Due.dueOut("as it is now", x, 6);
        OrdersMadeOne y = new OrdersMadeOne();
        y.image(0);
        Due.write(y, Due.PUSH, 5);
        y.pack(0);
        y.run(0, true, 10);
        y.again(0);
        Due.due("none is packed there", y.run(0, true, 10), Due.NONE);
    }

    private static void programCountsForNothing() {
        Due.about("run: (program counts for nothing)");
        for (int program : Due.ODD) {
            OrdersMadeOne x = new OrdersMadeOne();
            Due.write(x, Due.PUSH, 5, Due.OUT, 0);
            Due.write(x, Due.PUSH, 6, Due.OUT, 0);
            x.pack(1);
            Due.due("packed run of " + program, x.run(program, true, 10), 0);
            Due.dueOut("it is the packed one", x, 6);
        }
    }

    private static void atMostSoMany() {
        Due.about("run: of at most so many ORDERS, 0 .. 20000: how it ENDS");
        OrdersMadeOne x = new OrdersMadeOne();
        Due.write(x, Due.MORE, 0, Due.GO, 0);
        x.pack(0);
        for (int way = 0; way < 2; way++) {
            for (int most : new int[] {0, 1, 2, 3, 19999, 20000}) {
                Due.due("run of " + most, x.run(0, way == 1, most), 3);
                Due.dueDone("run of " + most, x, most, most % 2);
                Due.due("register", x.had(2, 0), (most + 1) / 2);
            }
        }
    }

    private static void runOfNone() {
        Due.about("run: NONE: there is none such");
        for (int program : BELOW_AND_ABOVE) {
            Whole.refusedEverywhere("run " + program, x -> x.run(program, false, 10), Due.NONE);
        }
        Whole.refused("run 0", Whole.State.NEW, x -> x.run(0, false, 10), Due.NONE);
        Whole.refused("run 2", Whole.State.MIDST, x -> x.run(2, false, 10), Due.NONE);
        Whole.refused("run, packed", Whole.State.NEW, x -> x.run(0, true, 10), Due.NONE);
        OrdersMadeOne x = new OrdersMadeOne();
        Due.write(x, Due.PUSH, 5);
        Due.due("none was packed", x.run(0, true, 10), Due.NONE);
        Due.due("so nothing was run", x.ran(0), Due.NONE);
    }

    private static void runOfAnotherNumber() {
        Due.about("run: NONE: .. another number");
        for (int most : new int[] {Integer.MIN_VALUE, -20000, -2, -1, 20001, 20002, 65536, Integer.MAX_VALUE}) {
            Whole.refusedEverywhere("run of at most " + most, x -> x.run(0, false, most), Due.NONE);
            Whole.refusedEverywhere("packed run of at most " + most, x -> x.run(0, true, most), Due.NONE);
        }
    }

    private static void ranDone() {
        Due.about("ran: what 0: ORDERS done");
        OrdersMadeOne x = new OrdersMadeOne();
        x.program();
        x.run(0, false, 10);
        Due.due("none", x.ran(0), 0);
        Due.write(x, Due.GO, 0);
        x.run(1, false, 20000);
        Due.due("the most", x.ran(0), 20000);
        Due.write(x, Due.REST, 0, Due.DROP, 0);
        x.run(2, false, 20000);
        Due.due("not the one by which it ends", x.ran(0), 1);
    }

    private static void ranBegun() {
        Due.about("ran: 1: .. (of one that was not PACKED: ORDERS begun, also one by which it ENDS as 1 or 2)");
        OrdersMadeOne x = new OrdersMadeOne();
        x.program();
        x.run(0, false, 10);
        Due.due("none", x.ran(1), 0);
        Due.add(x, 0, Due.REST, 0, Due.DROP, 0);
        x.run(0, false, 0);
        Due.due("none told", x.ran(1), 0);
        x.run(0, false, 1);
        Due.due("as 3: not the next one", x.ran(1), 1);
        x.run(0, false, 2);
        Due.due("as 1: that one, too", x.ran(1), 2);
        Due.write(x, Due.times(25, Due.PUSH, 1));
        x.run(1, false, 24);
        Due.due("as 3", x.ran(1), 24);
        x.run(1, false, 25);
        Due.due("as 2: that one, too", x.ran(1), 25);
        Due.write(x, Due.REST, 0, Due.HALT, 0, Due.REST, 0);
        x.run(2, false, 25);
        Due.due("as 0: halt, too", x.ran(1), 2);
        x.join(2, Due.REST, Due.HALT, 0, 0);
        x.run(2, false, 25);
        Due.due("joined orders do not count here", x.ran(1), 2);
    }

    private static void ranBegunOfPacked() {
        Due.about("ran: 1: CODES begun");
        OrdersMadeOne x = new OrdersMadeOne();
        Due.write(x, Due.REST, 0, Due.MORE, 0, Due.REST, 0, Due.DROP, 0, Due.REST, 0);
        x.join(2, Due.REST, Due.MORE, 0, 0);
        x.join(2, Due.REST, Due.DROP, 0, 0);
        Due.due("pack", x.pack(0), 3);
        int[] begun = {0, 1, 1, 2, 2};
        for (int most = 0; most < 5; most++) {
            Due.due("run of at most " + most, x.run(0, true, most), most < 4 ? 3 : 1);
            Due.due("begun of at most " + most, x.ran(1), begun[most]);
        }
        x.part();
        Due.due("pack", x.pack(0), 5);
        Due.due("run", x.run(0, true, 10), 1);
        Due.due("that by whose only order it ends, too", x.ran(1), 4);
        Due.write(x, Due.REST, 0, Due.REST, 0, Due.GO, 0);
        x.join(3, Due.REST, Due.REST, Due.GO, 0);
        Due.due("pack", x.pack(1), 1);
        x.run(0, true, 20000);
        Due.due("the same code again and again", x.ran(1), 6667);
        x.run(0, true, 3);
        Due.due("the second time is not begun", x.ran(1), 1);
        x.program();
        x.pack(2);
        Due.due("run of no codes", x.run(0, true, 3), 0);
        Due.due("none begun", x.ran(1), 0);
    }

    private static void ranPileAndOut() {
        Due.about("ran: 2: how many lie on the pile, 3: how many are out");
        OrdersMadeOne x = Whole.in(Whole.State.FULL);
        Due.due("the most on the pile", x.ran(2), 24);
        Due.due("the most out", x.ran(3), 40);
        x.run(0, false, 0);
        Due.due("none on the pile", x.ran(2), 0);
        Due.due("none out", x.ran(3), 0);
    }

    private static void ranPlace() {
        Due.about("ran: 4: the place at which it ENDS (that of an ORDER that was not done, or of halt; "
            + "behind the last one)");
        OrdersMadeOne x = new OrdersMadeOne();
        Due.write(x, Due.REST, 0, Due.DROP, 0);
        int[][] ends = {{0, 3, 0}, {1, 3, 1}, {2, 1, 1}};
        for (int[] end : ends) {
            Due.due("run of " + end[0], x.run(0, false, end[0]), end[1]);
            Due.due("place of an order that was not done", x.ran(4), end[2]);
        }
        Due.write(x, Due.behind(Due.times(24, Due.PUSH, 1), Due.TWICE, 0));
        Due.due("as 2", x.run(1, false, 100), 2);
        Due.due("place of an order that was not done", x.ran(4), 24);
        Due.write(x, Due.REST, 0, Due.REST, 0, Due.HALT, 0);
        Due.due("by halt", x.run(2, false, 100), 0);
        Due.due("place of halt", x.ran(4), 2);
        OrdersMadeOne y = new OrdersMadeOne();
        y.program();
        y.run(0, false, 100);
        Due.due("no orders", y.ran(4), 0);
        Due.add(y, 0, Due.times(40, Due.REST, 0));
        y.run(0, false, 100);
        Due.due("behind the last of forty", y.ran(4), 40);
    }

    private static void ranOfNone() {
        Due.about("ran: NONE if there was none, or for another what.");
        for (int what = 0; what < 5; what++) {
            int of = what;
            Whole.refused("ran " + what, Whole.State.NEW, x -> x.ran(of), Due.NONE);
        }
        for (int what : new int[] {Integer.MIN_VALUE, -2, -1, 5, 6, Integer.MAX_VALUE}) {
            Whole.refusedEverywhere("ran " + what, x -> x.ran(what), Due.NONE);
        }
    }

    private static void hadPile() {
        Due.about("had: what 0: number k of the pile, the lowest first");
        OrdersMadeOne x = new OrdersMadeOne();
        x.program();
        for (int k = 0; k < 24; k++) {
            x.order(0, Due.PUSH, 100 - k);
        }
        x.order(0, Due.DROP, 0);
        x.run(0, false, 24);
        Due.due("the lowest", x.had(0, 0), 100);
        Due.due("the top", x.had(0, 23), 77);
        Due.due("above it", x.had(0, 24), 0);
        x.run(0, false, 25);
        Due.due("the top", x.had(0, 22), 78);
        Due.due("one that went is none", x.had(0, 23), 0);
    }

    private static void hadOut() {
        Due.about("had: 1: number k that came out");
        OrdersMadeOne x = Whole.in(Whole.State.FULL);
        for (int k = 0; k < 40; k++) {
            Due.due("out", x.had(1, k), k + 1);
        }
        Due.due("behind", x.had(1, 40), 0);
        Due.due("ahead", x.had(1, -1), 0);
    }

    private static void hadRegisters() {
        Due.about("had: 2: register k");
        OrdersMadeOne x = new OrdersMadeOne();
        Due.write(x, Due.PUSH, -5, Due.SET, 0, Due.MORE, 7);
        x.run(0, false, 100);
        Due.due("the first", x.had(2, 0), -5);
        Due.due("one that was not set", x.had(2, 3), 0);
        Due.due("the last", x.had(2, 7), 1);
        Due.due("behind", x.had(2, 8), 0);
    }

    private static void hadOfNone() {
        Due.about("had: 0 if there is none such.");
        for (int k : new int[] {Integer.MIN_VALUE, -2, -1, 40, 41, Integer.MAX_VALUE}) {
            for (int what : new int[] {Integer.MIN_VALUE, -1, 0, 1, 2, 3, 4, Integer.MAX_VALUE}) {
                Whole.refusedEverywhere("had " + what + " " + k, x -> x.had(what, k), 0);
            }
        }
        for (int what : BELOW_AND_ABOVE) {
            Whole.refusedEverywhere("had " + what, x -> x.had(what, 0), 0);
        }
        Whole.refused("above the pile", Whole.State.FULL, x -> x.had(0, 24), 0);
        Whole.refused("a ninth register", Whole.State.FULL, x -> x.had(2, 8), 0);
    }

    private static void theLatestRun() {
        Due.about("ran, had: Of the latest RUN");
        OrdersMadeOne x = new OrdersMadeOne();
        Due.write(x, Due.PUSH, 5, Due.PUSH, 6, Due.OUT, 0, Due.MORE, 1);
        Due.write(x, Due.PUSH, 7);
        x.pack(1);
        x.run(0, false, 100);
        Due.duePile("the first one", x, 5);
        x.run(0, true, 100);
        Due.duePile("packed ones, too", x, 7);
        Due.dueOut("packed ones, too", x);
        Due.due("register", x.had(2, 1), 0);
        Due.dueDone("packed ones, too", x, 1, 1);
        x.run(0, false, 100);
        x.run(5, false, 100);
        x.run(1, false, -1);
        Due.duePile("not one that is refused", x, 5);
        Due.dueDone("not one that is refused", x, 4, 4);
    }
}
