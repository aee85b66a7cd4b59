/** Promises 1 to 8: a method for each sentence that names an edge, with all calls that it refuses. */
public final class EdgesOfPromises1To8Test {
    private static final int[] BELOW_AND_ABOVE = {Integer.MIN_VALUE, -1000, -2, -1, 3, 4, 16, 40, 256,
        Integer.MAX_VALUE};

    public static void main(String[] args) {
        noProgramsYet();
        noJoinedYet();
        nothingWasRun();
        nothingIsChosen();
        noImages();
        programWithoutOrders();
        aFourthProgram();
        orderForgetsTheRun();
        orderOfNoProgram();
        orderOfNoKind();
        orderOfNoArgument();
        orderWithoutArgument();
        orderWhereThereAreForty();
        changeToAnother();
        changeForgetsTheRun();
        changeOfNone();
        changeOfOneWithoutArgument();
        changeThatCannotBe();
        tellKindAndArgument();
        tellHowOften();
        tellWhetherWaysLead();
        tellOfNone();
        tellAnotherWhat();
        joinAsFarAsTheyCount();
        joinWhereThereAreSix();
        joinWhatIsThere();
        joinWhatCannotBe();
        partAll();
        joinedOfNone();
        Due.end();
    }

    private static void noProgramsYet() {
        Due.about("No PROGRAMS");
        OrdersMadeOne x = new OrdersMadeOne();
        Due.due("programs", x.count(0), 0);
        for (int program = 0; program < 3; program++) {
            Due.due("orders", x.count(10 + program), Due.NONE);
            Due.due("order", x.order(program, Due.REST, 0), Due.NONE);
            Due.due("change", x.change(program, 0, 0), false);
            Due.due("tell", x.tell(program, 0, 0), Due.NONE);
            Due.due("pack", x.pack(program), Due.NONE);
            Due.due("run", x.run(program, false, 10), Due.NONE);
        }
        Due.due("cost", x.cost(false) + x.cost(true), 0);
        Due.due("the first one", x.program(), 0);
    }

    private static void noJoinedYet() {
        Due.about("no JOINED ORDERS");
        OrdersMadeOne x = new OrdersMadeOne();
        Due.due("joined orders", x.count(1), 0);
        Due.due("kind", x.joined(0, 0), Due.NONE);
        x.part();
        Due.due("joined orders", x.count(1), 0);
        Due.due("the first one", x.join(2, 1, 1, 0, 0), 0);
    }

    private static void nothingWasRun() {
        Due.about("nothing was run");
        OrdersMadeOne x = new OrdersMadeOne();
        for (int what = 0; what < 5; what++) {
            Due.due("ran " + what, x.ran(what), Due.NONE);
        }
        for (int what = 0; what < 3; what++) {
            Due.due("had " + what, x.had(what, 0), 0);
        }
        Due.due("codes", x.count(2), Due.NONE);
        Due.due("bytes", x.count(3), Due.NONE);
        Due.due("run of the packed one", x.run(0, true, 10), Due.NONE);
    }

    private static void nothingIsChosen() {
        Due.about("nothing is CHOSEN");
        OrdersMadeOne x = new OrdersMadeOne();
        Due.due("rows", x.count(4), 0);
        Due.due("kind", x.chosen(0, 0), Due.NONE);
        Due.due("take", x.take(), Due.NONE);
    }

    private static void noImages() {
        Due.about("no images");
        for (int k = 0; k < 3; k++) {
            int image = k;
            Whole.refused("again " + k, Whole.State.NEW, x -> x.again(image) ? 1 : 0, 0);
        }
    }

    private static void programWithoutOrders() {
        Due.about("program: A PROGRAM without ORDERS: its number.");
        OrdersMadeOne x = new OrdersMadeOne();
        for (int k = 0; k < 3; k++) {
            Due.due("program", x.program(), k);
            Due.due("orders", x.count(10 + k), 0);
            Due.due("tell", x.tell(k, 0, 0), Due.NONE);
            Due.due("run", x.run(k, false, 10), 0);
            Due.due("pack", x.pack(k), 0);
        }
    }

    private static void aFourthProgram() {
        Due.about("program: NONE: there are 3.");
        Whole.refused("program", Whole.State.FULL, x -> x.program(), Due.NONE);
        OrdersMadeOne x = new OrdersMadeOne();
        x.program();
        x.program();
        Due.due("one that is read counts", x.read(), 2);
        Due.due("a fourth", x.program(), Due.NONE);
        Due.due("a fourth, asked again", x.program(), Due.NONE);
    }

    private static OrdersMadeOne twoThatRan() {
        OrdersMadeOne x = new OrdersMadeOne();
        Due.write(x, Due.PUSH, 7, Due.OUT, 0, Due.GO, 0);
        Due.write(x, Due.PUSH, 8, Due.ADD, 0);
        x.run(1, false, 100);
        x.run(0, false, 7);
        return x;
    }

    private static void dueForgotten(String what, OrdersMadeOne x) {
        for (int place = 0; place < x.count(10); place++) {
            Due.due(what + ": times at " + place, x.tell(0, place, 2), 0);
        }
        Due.due(what + ": those of another one stay", x.tell(1, 0, 2), 1);
        Due.due(what + ": cost by runs", x.cost(true), 1);
        Due.due(what + ": rows by runs", x.choose(2, true), 1);
        Due.dueChosen(what, x);
        x.run(0, false, 2);
        Due.due(what + ": a new run counts", x.tell(0, 1, 2), 1);
    }

    private static void orderForgetsTheRun() {
        Due.about("order: An ORDER comes behind a PROGRAM (its latest RUN is forgotten): its place.");
        OrdersMadeOne x = twoThatRan();
        Due.due("times", x.tell(0, 0, 2), 3);
        Due.due("order", x.order(0, Due.HALT, 0), 3);
        Due.due("it is behind", x.tell(0, 3, 0), Due.HALT);
        dueForgotten("order", x);
        OrdersMadeOne y = twoThatRan();
        Due.due("one that is refused", y.order(0, Due.HALT, 1), Due.NONE);
        Due.due("forgets nothing", y.tell(0, 0, 2), 3);
        Due.due("nor does one of another program", y.order(1, Due.HALT, 0), 2);
        Due.due("forget it", y.tell(0, 0, 2), 3);
        Due.due("but its own", y.tell(1, 0, 2), 0);
    }

    private static void orderOfNoProgram() {
        Due.about("order: NONE: no such PROGRAM");
        for (int program : BELOW_AND_ABOVE) {
            Whole.refusedEverywhere("order of program " + program, x -> x.order(program, Due.REST, 0), Due.NONE);
        }
        Whole.refused("order of program 0", Whole.State.NEW, x -> x.order(0, Due.REST, 0), Due.NONE);
        Whole.refused("order of program 2", Whole.State.MIDST, x -> x.order(2, Due.REST, 0), Due.NONE);
    }

    private static void orderOfNoKind() {
        Due.about("order: NONE: no such .. kind");
        for (int kind : new int[] {Integer.MIN_VALUE, -2, -1, 16, 17, 21, 32, 256, Integer.MAX_VALUE}) {
            Whole.refused("order of kind " + kind, Whole.State.MIDST, x -> x.order(0, kind, 0), Due.NONE);
            Whole.refused("order of kind " + kind, Whole.State.FULL, x -> x.order(1, kind, 0), Due.NONE);
        }
    }

    private static void orderOfNoArgument() {
        Due.about("order: NONE: no such .. ARGUMENT");
        int[][] wrong = {{Due.PUSH, -129}, {Due.PUSH, 128}, {Due.PUSH, 255}, {Due.GET, -1}, {Due.GET, 8},
            {Due.SET, -1}, {Due.SET, 8}, {Due.MORE, -1}, {Due.MORE, 8}, {Due.GO, -1}, {Due.GO, 40}, {Due.IF, -1},
            {Due.IF, 40}};
        for (int[] one : wrong) {
            for (int argument : new int[] {one[1], Integer.MIN_VALUE, Integer.MAX_VALUE}) {
                Whole.refused("order " + one[0] + " " + argument, Whole.State.MIDST,
                    x -> x.order(1, one[0], argument), Due.NONE);
            }
        }
    }

    private static void orderWithoutArgument() {
        Due.about("order: ARGUMENT (of one without, 0 alone)");
        for (int kind : new int[] {1, 2, 3, 4, 5, 6, 11, 12, 13, 14}) {
            OrdersMadeOne x = new OrdersMadeOne();
            x.program();
            Due.due("order " + kind + " 0", x.order(0, kind, 0), 0);
            for (int argument : new int[] {-1, 1, 7, 39, 127, 256, Integer.MIN_VALUE, Integer.MAX_VALUE}) {
                Whole.refused("order " + kind + " " + argument, Whole.State.MIDST,
                    y -> y.order(1, kind, argument), Due.NONE);
            }
        }
    }

    private static void orderWhereThereAreForty() {
        Due.about("order: NONE: .. there are 40");
        for (int kind = 0; kind < 16; kind++) {
            int one = kind;
            Whole.refused("order " + kind, Whole.State.FULL, x -> x.order(0, one, 0), Due.NONE);
        }
        OrdersMadeOne x = new OrdersMadeOne();
        x.join(4, 14, 14, 14, 14);
        for (int k = 0; k < 10; k++) {
            x.feed(0x10000000, 1);
        }
        Due.due("forty that are read", x.read(), 0);
        Due.due("order", x.order(0, Due.REST, 0), Due.NONE);
    }

    private static void changeToAnother() {
        Due.about("change: An ORDER's ARGUMENT is another one .. : true");
        int[][] edges = {{Due.PUSH, -128, 127}, {Due.GET, 0, 7}, {Due.SET, 0, 7}, {Due.GO, 0, 39}, {Due.IF, 0, 39},
            {Due.MORE, 0, 7}};
        for (int[] edge : edges) {
            OrdersMadeOne x = new OrdersMadeOne();
            Due.write(x, edge[0], 1, edge[0], 2);
            for (int argument : new int[] {edge[1], edge[2], edge[2]}) {
                Due.due("change " + edge[0] + " to " + argument, x.change(0, 1, argument), true);
                Due.due("it has that", x.tell(0, 1, 1), argument);
                Due.due("its kind is the same", x.tell(0, 1, 0), edge[0]);
                Due.due("the other one has its own", x.tell(0, 0, 1), 1);
            }
        }
        OrdersMadeOne x = new OrdersMadeOne();
        Due.write(x, Due.times(40, Due.PUSH, 1));
        Due.due("the first of forty", x.change(0, 0, 2), true);
        Due.due("the last of forty", x.change(0, 39, 3), true);
        Due.due("the last one", x.tell(0, 39, 1), 3);
    }

    private static void changeForgetsTheRun() {
        Due.about("change: (the latest RUN is forgotten)");
        OrdersMadeOne x = twoThatRan();
        Due.due("to another", x.change(0, 0, 6), true);
        dueForgotten("change", x);
        OrdersMadeOne y = twoThatRan();
        Due.due("to the same", y.change(0, 2, 0), true);
        dueForgotten("change", y);
        OrdersMadeOne z = twoThatRan();
        Due.due("one that is refused", z.change(0, 0, 128), false);
        Due.due("one that is refused", z.change(0, 1, 0), false);
        Due.due("forgets nothing", z.tell(0, 0, 2), 3);
        Due.due("one of another program", z.change(1, 0, 0), true);
        Due.due("does not, either", z.tell(0, 0, 2), 3);
    }

    private static void changeOfNone() {
        Due.about("change: false: there is none such");
        for (int wrong : BELOW_AND_ABOVE) {
            Whole.refusedEverywhere("change of program " + wrong, x -> x.change(wrong, 0, 1) ? 1 : 0, 0);
        }
        for (int place : new int[] {Integer.MIN_VALUE, -1, 6, 40, 41, Integer.MAX_VALUE}) {
            Whole.refused("change at " + place, Whole.State.MIDST, x -> x.change(0, place, 1) ? 1 : 0, 0);
        }
        for (int place : new int[] {Integer.MIN_VALUE, -1, 40, 41, Integer.MAX_VALUE}) {
            Whole.refused("change at " + place, Whole.State.FULL, x -> x.change(0, place, 1) ? 1 : 0, 0);
        }
        Whole.refused("change of a program to come", Whole.State.MIDST, x -> x.change(2, 0, 1) ? 1 : 0, 0);
    }

    private static void changeOfOneWithoutArgument() {
        Due.about("change: false: .. it has none");
        for (int argument : new int[] {0, 1, -1, Integer.MIN_VALUE, Integer.MAX_VALUE}) {
            Whole.refused("change of out to " + argument, Whole.State.MIDST, x -> x.change(0, 1, argument) ? 1 : 0, 0);
            Whole.refused("change of halt to " + argument, Whole.State.FULL, x -> x.change(2, 2, argument) ? 1 : 0, 0);
        }
        for (int kind : new int[] {1, 2, 3, 4, 5, 6, 11, 12, 13, 14}) {
            OrdersMadeOne x = new OrdersMadeOne();
            Due.write(x, kind, 0);
            Due.due("change of " + kind, x.change(0, 0, 0), false);
        }
    }

    private static void changeThatCannotBe() {
        Due.about("change: false: .. it can't be");
        int[][] wrong = {{0, -129}, {0, 128}, {3, -1}, {3, 8}, {5, -1}, {5, 40}};
        for (int[] one : wrong) {
            for (int argument : new int[] {one[1], Integer.MIN_VALUE, Integer.MAX_VALUE}) {
                Whole.refused("change at " + one[0] + " to " + argument, Whole.State.MIDST,
                    x -> x.change(0, one[0], argument) ? 1 : 0, 0);
            }
        }
        int[][] full = {{0, -1}, {0, 8}, {1, -1}, {1, 8}, {6, -1}, {6, 40}};
        for (int[] one : full) {
            Whole.refused("change at " + one[0] + " to " + one[1], Whole.State.FULL,
                x -> x.change(0, one[0], one[1]) ? 1 : 0, 0);
        }
    }

    private static void tellKindAndArgument() {
        Due.about("tell: what 0: its kind, 1: ARGUMENT (0 without) .. (An ARGUMENT may be -1, too.)");
        OrdersMadeOne x = new OrdersMadeOne();
        Due.write(x, Due.PUSH, -1, Due.PUSH, -128, Due.HALT, 0, Due.IF, 39, Due.MORE, 7);
        Due.dueOrders("tell", x, 0, Due.PUSH, -1, Due.PUSH, -128, Due.HALT, 0, Due.IF, 39, Due.MORE, 7);
    }

    private static void tellHowOften() {
        Due.about("tell: 2: how often it was done in the latest RUN that was not PACKED (0 without one)");
        OrdersMadeOne x = new OrdersMadeOne();
        Due.write(x, Due.REST, 0, Due.GO, 0, Due.REST, 0);
        Due.write(x, Due.MORE, 0);
        Due.due("without one", x.tell(0, 0, 2), 0);
        x.run(0, false, 20000);
        Due.due("the most", x.tell(0, 0, 2), 10000);
        Due.due("one that was not done", x.tell(0, 2, 2), 0);
        x.pack(0);
        x.run(0, true, 3);
        Due.due("packed does not count", x.tell(0, 0, 2), 10000);
        x.run(1, false, 3);
        Due.due("nor does another program", x.tell(0, 0, 2), 10000);
        Due.due("that has its own", x.tell(1, 0, 2), 1);
        x.run(0, false, 20001);
        Due.due("nor one that is refused", x.tell(0, 0, 2), 10000);
        x.run(0, false, 0);
        Due.due("one that does none is the latest", x.tell(0, 0, 2), 0);
    }

    private static void tellWhetherWaysLead() {
        Due.about("tell: 3: 1 if a go or an if leads there, else 0");
        OrdersMadeOne x = new OrdersMadeOne();
        Due.write(x, Due.behind(Due.row(Due.GO, 39, Due.IF, 0), Due.times(38, Due.PUSH, 5)));
        for (int place = 0; place < 40; place++) {
            Due.due("led to " + place, x.tell(0, place, 3), place == 0 || place == 39 ? 1 : 0);
        }
        x.change(0, 0, 0);
        Due.due("by both", x.tell(0, 0, 3), 1);
        Due.due("by none", x.tell(0, 39, 3), 0);
        x.change(0, 1, 1);
        Due.due("by one still", x.tell(0, 0, 3), 1);
        Due.due("by itself", x.tell(0, 1, 3), 1);
        OrdersMadeOne y = new OrdersMadeOne();
        Due.write(y, Due.GO, 1);
        Due.due("where no order is, none is told", y.tell(0, 1, 3), Due.NONE);
        y.order(0, Due.HALT, 0);
        Due.due("now it is", y.tell(0, 1, 3), 1);
    }

    private static void tellOfNone() {
        Due.about("tell: NONE if there is none such");
        for (int what = 0; what < 4; what++) {
            int of = what;
            for (int program : BELOW_AND_ABOVE) {
                Whole.refusedEverywhere("tell of program " + program, x -> x.tell(program, 0, of), Due.NONE);
            }
            for (int place : new int[] {Integer.MIN_VALUE, -1, 40, 41, Integer.MAX_VALUE}) {
                Whole.refusedEverywhere("tell of place " + place, x -> x.tell(0, place, of), Due.NONE);
            }
            Whole.refused("tell of the place behind", Whole.State.MIDST, x -> x.tell(0, 6, of), Due.NONE);
        }
    }

    private static void tellAnotherWhat() {
        Due.about("tell: NONE .. for another what");
        for (int what : new int[] {Integer.MIN_VALUE, -2, -1, 4, 5, 10, Integer.MAX_VALUE}) {
            Whole.refusedEverywhere("tell " + what, x -> x.tell(0, 0, what), Due.NONE);
        }
    }

    private static void joinAsFarAsTheyCount() {
        Due.about("join: A JOINED ORDER of n kinds, 2 .. 4 (a, b, then c, d as far as they count): its number.");
        for (int odd : new int[] {Integer.MIN_VALUE, -1, 16, 99, Integer.MAX_VALUE}) {
            OrdersMadeOne x = new OrdersMadeOne();
            Due.due("two", x.join(2, 1, 2, odd, odd), 0);
            Due.due("three", x.join(3, 1, 2, 3, odd), 1);
            Due.due("four", x.join(4, 1, 2, 3, 4), 2);
            int[][] rows = {{1, 2, -1, -1, -1}, {1, 2, 3, -1, -1}, {1, 2, 3, 4, -1}};
            for (int k = 0; k < 3; k++) {
                for (int i = 0; i < 5; i++) {
                    Due.due("kind " + i + " of " + k, x.joined(k, i), rows[k][i]);
                }
            }
        }
        OrdersMadeOne x = new OrdersMadeOne();
        Due.due("the least kind", x.join(4, 0, 0, 0, 0), 0);
        Due.due("the greatest kind", x.join(4, 15, 15, 15, 15), 1);
        Due.due("the greatest kind", x.joined(1, 3), 15);
        Due.due("the least kind", x.joined(0, 3), 0);
    }

    private static void joinWhereThereAreSix() {
        Due.about("join: NONE: there are 6");
        Whole.refused("join", Whole.State.FULL, x -> x.join(2, 14, 14, 0, 0), Due.NONE);
        Whole.refused("join", Whole.State.FULL, x -> x.join(4, 14, 14, 14, 13), Due.NONE);
    }

    private static void joinWhatIsThere() {
        Due.about("join: NONE: .. it is there");
        Whole.refused("join", Whole.State.MIDST, x -> x.join(2, Due.PUSH, Due.OUT, 3, 3), Due.NONE);
        Whole.refused("join", Whole.State.MIDST, x -> x.join(3, Due.PUSH, Due.SET, Due.PUSH, 99), Due.NONE);
        Whole.refused("join", Whole.State.FULL, x -> x.join(2, 5, 0, 0, 0), Due.NONE);
        OrdersMadeOne x = new OrdersMadeOne();
        Due.writeKinds(x, 1, 2);
        x.choose(1, false);
        Due.due("one that is chosen is not there yet", x.join(2, 1, 2, 0, 0), 0);
        x.take();
        Due.due("one that was taken is", x.join(2, 1, 2, 0, 0), Due.NONE);
    }

    private static void joinWhatCannotBe() {
        Due.about("join: NONE: .. it can't be");
        for (int odd : new int[] {Integer.MIN_VALUE, -1, 16, 17, Integer.MAX_VALUE}) {
            Whole.refused("first " + odd, Whole.State.MIDST, x -> x.join(2, odd, 1, 0, 0), Due.NONE);
            Whole.refused("second " + odd, Whole.State.MIDST, x -> x.join(2, 1, odd, 0, 0), Due.NONE);
            Whole.refused("third " + odd, Whole.State.MIDST, x -> x.join(3, 1, 1, odd, 0), Due.NONE);
            Whole.refused("fourth " + odd, Whole.State.MIDST, x -> x.join(4, 1, 1, 1, odd), Due.NONE);
            Whole.refused("kinds " + odd, Whole.State.NEW, x -> x.join(odd, 1, 1, 1, 1), Due.NONE);
        }
        for (int kind : new int[] {Due.GO, Due.IF, Due.HALT}) {
            Whole.refused("first " + kind, Whole.State.NEW, x -> x.join(2, kind, 1, 0, 0), Due.NONE);
            Whole.refused("second " + kind, Whole.State.MIDST, x -> x.join(3, 1, kind, 1, 0), Due.NONE);
            Whole.refused("third " + kind, Whole.State.MIDST, x -> x.join(4, 1, 1, kind, 1), Due.NONE);
        }
    }

    private static void partAll() {
        Due.about("part: All JOINED ORDERS are gone.");
        OrdersMadeOne x = Whole.in(Whole.State.FULL);
        int codes = x.count(2);
        x.part();
        Due.due("joined orders", x.count(1), 0);
        for (int k = 0; k < 6; k++) {
            Due.due("kind", x.joined(k, 0), Due.NONE);
        }
        Due.due("those that are chosen stay", x.count(4), 2);
        Due.due("the packed one stays", x.count(2), codes);
        Due.due("cost", x.cost(false), 46);
        Due.due("numbers begin anew", x.join(2, 0, 1, 0, 0), 0);
        Whole.refused("part of none", Whole.State.NEW, y -> {
            y.part();
            return 0;
        }, 0);
    }

    private static void joinedOfNone() {
        Due.about("joined: Kind k of a JOINED ORDER, from 0 on. NONE if there is none such.");
        for (int wrong : new int[] {Integer.MIN_VALUE, -2, -1, 6, 7, Integer.MAX_VALUE}) {
            Whole.refusedEverywhere("joined " + wrong, x -> x.joined(wrong, 0), Due.NONE);
            Whole.refusedEverywhere("joined 0 " + wrong, x -> x.joined(0, wrong), Due.NONE);
        }
        OrdersMadeOne x = new OrdersMadeOne();
        x.join(2, 0, 1, 0, 0);
        x.join(3, 0, 1, 2, 0);
        x.join(4, 0, 1, 2, 3);
        for (int k = 0; k < 3; k++) {
            Due.due("the last of " + k, x.joined(k, k + 1), k + 1);
            Due.due("behind it", x.joined(k, k + 2), Due.NONE);
        }
        Due.due("a row that is not there", x.joined(3, 0), Due.NONE);
    }
}
