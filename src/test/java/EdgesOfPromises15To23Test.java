/** Promises 15 to 23 and the 512 calls: a method for each sentence that names an edge, with all calls it refuses. */
public final class EdgesOfPromises15To23Test {
    public static void main(String[] args) {
        costOfNone();
        costByThoseThatThereAre();
        chooseAtMostK();
        chooseAnotherK();
        theyAreNoJoinedOrdersYet();
        chosenTheLeastFirst();
        chosenOfNone();
        takeThoseChosen();
        takeNone();
        takeThatWasNotAsked();
        feedBehindThoseToldSoFar();
        feedTheFirstN();
        feedAtMost160();
        feedAnotherN();
        readAsANewProgram();
        readWithoutBytes();
        readWhereThereAreThree();
        readANumberThatNoCodeHas();
        readOneByteTooFew();
        readAnArgumentThatCannotBe();
        readMoreThanForty();
        countOfAll();
        countAnotherWhat();
        imageAsItIsNow();
        imageAnotherK();
        againOtherImagesStay();
        againOfNone();
        toTheLastCall();
        Due.end();
    }

    private static void costOfNone() {
        Due.about("cost: The cost of all PROGRAMS");
        OrdersMadeOne x = new OrdersMadeOne();
        for (int programs = 0; programs < 4; programs++) {
            Due.due("by places, of " + programs + " without orders", x.cost(false), 0);
            Due.due("by runs, of " + programs + " without orders", x.cost(true), 0);
            x.program();
        }
        for (int program = 0; program < 3; program++) {
            Due.add(x, program, Due.times(40, Due.REST, 0));
            Due.due("by places, of forty orders each", x.cost(false), 40 * (program + 1));
            x.run(program, false, 40);
            Due.due("by runs, of forty orders each", x.cost(true), 40 * (program + 1));
        }
        OrdersMadeOne y = new OrdersMadeOne();
        for (int program = 0; program < 3; program++) {
            Due.write(y, Due.GO, 0);
            y.run(program, false, 20000);
        }
        Due.due("the most", y.cost(true), 60000);
    }

    private static void costByThoseThatThereAre() {
        Due.about("cost: by the JOINED ORDERS that there are, by RUNS or by places");
        OrdersMadeOne x = new OrdersMadeOne();
        Due.write(x, Due.REST, 0, Due.MORE, 0, Due.GO, 0);
        x.run(0, false, 8);
        Due.due("by places", x.cost(false), 3);
        Due.due("by runs", x.cost(true), 8);
        x.join(3, Due.REST, Due.MORE, Due.GO, 0);
        Due.due("by places", x.cost(false), 1);
        Due.due("by runs", x.cost(true), 3);
        x.choose(1, false);
        x.part();
        Due.due("rows that are chosen do not count", x.cost(false), 3);
        for (Whole.State state : Whole.State.values()) {
            Whole.refused("cost by places", state, y -> y.cost(false), Whole.in(state).cost(false));
            Whole.refused("cost by runs", state, y -> y.cost(true), Whole.in(state).cost(true));
        }
    }

    private static void chooseAtMostK() {
        Due.about("choose: CHOSEN are at most k rows: the cost with them.");
        OrdersMadeOne x = new OrdersMadeOne();
        Due.due("no programs", x.choose(1, false), 0);
        Due.due("no programs", x.choose(2, true), 0);
        x.program();
        Due.due("no orders", x.choose(2, false), 0);
        x.order(0, Due.REST, 0);
        Due.due("one order", x.choose(2, false), 1);
        Due.dueChosen("one order", x);
        x.order(0, Due.MORE, 0);
        Due.due("two orders", x.choose(2, false), 1);
        Due.dueChosen("two orders", x, Due.row(14, 15));
        // All ORDERS that there can be, all of one kind.
        OrdersMadeOne y = new OrdersMadeOne();
        for (int program = 0; program < 3; program++) {
            y.program();
            for (int place = 0; place < (program == 1 ? 39 : 40); place++) {
                y.order(program, Due.REST, 0);
            }
        }
        Due.due("one", y.choose(1, false), 10 + 12 + 10);
        Due.dueChosen("one", y, Due.row(14, 14, 14, 14));
        Due.due("two", y.choose(2, false), 10 + 10 + 10);
        Due.dueChosen("two", y, Due.row(14, 14, 14), Due.row(14, 14, 14, 14));
        y.take();
        Due.due("the cost with them", y.cost(false), 30);
        Due.due("by runs, without one", y.choose(2, true), 0);
        Due.dueChosen("by runs, without one", y);
    }

    private static void chooseAnotherK() {
        Due.about("choose: NONE for another k.");
        for (int k : new int[] {Integer.MIN_VALUE, -2, -1, 0, 3, 4, 6, Integer.MAX_VALUE}) {
            Whole.refusedEverywhere("choose " + k, x -> x.choose(k, false), Due.NONE);
            Whole.refusedEverywhere("choose " + k + " by runs", x -> x.choose(k, true), Due.NONE);
        }
    }

    private static void theyAreNoJoinedOrdersYet() {
        Due.about("choose: (They are no JOINED ORDERS yet.)");
        OrdersMadeOne x = new OrdersMadeOne();
        Due.writeKinds(x, 1, 2, 1, 2);
        Due.due("choose", x.choose(2, false), 1);
        Due.due("joined orders", x.count(1), 0);
        Due.due("kind", x.joined(0, 0), Due.NONE);
        Due.due("cost", x.cost(false), 4);
        OrdersMadeOne y = Whole.in(Whole.State.FULL);
        y.choose(1, false);
        Due.due("those that there are stay", y.count(1), 6);
        Due.due("those that there are stay", y.joined(5, 0), 5);
    }

    private static void chosenTheLeastFirst() {
        Due.about("chosen: Of the rows CHOSEN, the least first, kind i of row k.");
        OrdersMadeOne x = new OrdersMadeOne();
        Due.writeKinds(x, 15, 14, 13);
        Due.writeKinds(x, 0, 1, 2, 3);
        Due.due("choose", x.choose(2, false), 2);
        Due.dueChosen("the least first", x, Due.row(0, 1, 2, 3), Due.row(15, 14, 13));
        x.order(0, 15, 0);
        x.part();
        Due.dueChosen("they stay, whatever comes", x, Due.row(0, 1, 2, 3), Due.row(15, 14, 13));
        x.choose(1, false);
        Due.dueChosen("until others are", x, Due.row(0, 1, 2, 3));
    }

    private static void chosenOfNone() {
        Due.about("chosen: NONE if there is none such.");
        for (int odd : new int[] {Integer.MIN_VALUE, -2, -1, 4, 5, 6, Integer.MAX_VALUE}) {
            Whole.refusedEverywhere("chosen " + odd, x -> x.chosen(odd, 0), Due.NONE);
            Whole.refusedEverywhere("chosen 0 " + odd, x -> x.chosen(0, odd), Due.NONE);
        }
        Whole.refused("chosen 2", Whole.State.FULL, x -> x.chosen(2, 0), Due.NONE);
        Whole.refused("chosen 1", Whole.State.MIDST, x -> x.chosen(1, 0), Due.NONE);
        OrdersMadeOne x = new OrdersMadeOne();
        Due.writeKinds(x, 1, 2);
        x.choose(1, false);
        Due.due("the last kind", x.chosen(0, 1), 2);
        Due.due("behind it", x.chosen(0, 2), Due.NONE);
    }

    private static void takeThoseChosen() {
        Due.about("take: The rows CHOSEN become the JOINED ORDERS, those that there were are gone: how many");
        OrdersMadeOne x = Whole.in(Whole.State.FULL);
        Due.due("joined orders", x.count(1), 6);
        Due.due("take", x.take(), 2);
        Due.due("joined orders", x.count(1), 2);
        for (int k = -1; k < 7; k++) {
            for (int i = -1; i < 5; i++) {
                Due.due("kind", x.joined(k, i), x.chosen(k, i));
            }
        }
        Due.due("they are chosen still", x.count(4), 2);
        Due.due("and can be taken again", x.take(), 2);
        for (int k = 2; k < 6; k++) {
            Due.due("there is room for others", x.join(2, 14, k, 0, 0), k);
        }
        Due.due("up to six", x.join(2, 14, 8, 0, 0), Due.NONE);
    }

    private static void takeNone() {
        Due.about("take: how many (0, too)");
        OrdersMadeOne x = new OrdersMadeOne();
        x.join(2, 1, 2, 0, 0);
        Due.due("choose", x.choose(2, false), 0);
        Due.due("take", x.take(), 0);
        Due.due("those that there were are gone", x.count(1), 0);
        Due.due("they are gone", x.joined(0, 0), Due.NONE);
    }

    private static void takeThatWasNotAsked() {
        Due.about("take: NONE: choose() was not asked by now.");
        Whole.refused("take", Whole.State.NEW, x -> x.take(), Due.NONE);
        OrdersMadeOne x = new OrdersMadeOne();
        Due.writeKinds(x, 1, 2);
        x.join(2, 1, 2, 0, 0);
        x.image(0);
        Due.due("take", x.take(), Due.NONE);
        Due.due("joined orders stay", x.joined(0, 1), 2);
        Due.due("choose of another k", x.choose(3, false), Due.NONE);
        Due.due("is not asked", x.take(), Due.NONE);
        x.choose(1, false);
        Due.due("now it was", x.take(), 1);
        x.again(0);
        Due.due("in the image it was not", x.take(), Due.NONE);
    }

    private static void feedBehindThoseToldSoFar() {
        Due.about("feed: they come behind those told so far .. ; how many there are");
        OrdersMadeOne x = new OrdersMadeOne();
        Due.due("push", x.feed(0x00000000, 1), 1);
        Due.due("its argument, twice, push", x.feed(0x80040000, 3), 4);
        Due.due("its argument, halt", x.feed(0x7f0d0000, 2), 6);
        Due.due("bytes told", x.count(5), 6);
        Due.due("read", x.read(), 0);
        Due.dueOrders("in their order", x, 0, Due.PUSH, -128, Due.TWICE, 0, Due.PUSH, 127, Due.HALT, 0);
        Due.due("they begin anew", x.feed(0x01010101, 4), 4);
    }

    private static void feedTheFirstN() {
        Due.about("feed: (the first n, the highest first)");
        int[] kinds = {Due.ADD, Due.TAKE, Due.TIMES, Due.TWICE};
        for (int n = 1; n <= 4; n++) {
            OrdersMadeOne x = new OrdersMadeOne();
            Due.due("feed", x.feed(0x01020304, n), n);
            Due.due("read", x.read(), 0);
            Due.due("orders", x.count(10), n);
            for (int k = 0; k < n; k++) {
                Due.due("kind", x.tell(0, k, 0), kinds[k]);
            }
        }
        // Bytes with their highest bit set, in each of the four.
        OrdersMadeOne x = new OrdersMadeOne();
        x.feed(0x00ff0080, 4);
        x.feed(0x00000000, 1);
        x.feed(0xfe00fd00, 4);
        x.feed(0xfc000000, 1);
        Due.due("read", x.read(), 0);
        Due.dueOrders("below zero", x, 0, Due.PUSH, -1, Due.PUSH, -128, Due.PUSH, -2, Due.PUSH, -3, Due.PUSH, -4);
    }

    private static void feedAtMost160() {
        Due.about("feed: (at most 160) .. NONE: there would be more");
        for (int n = 1; n <= 4; n++) {
            int one = n;
            Whole.refused("feed", Whole.State.FULL, x -> x.feed(0, one), Due.NONE);
            OrdersMadeOne x = new OrdersMadeOne();
            for (int k = 1; k <= 39; k++) {
                Due.due("feed", x.feed(-1, 4), 4 * k);
            }
            for (int told = 157; told <= 160; told++) {
                for (int more = 161 - told + 1; more <= 4; more++) {
                    Due.due("more", x.feed(-1, more), Due.NONE);
                }
                Due.due("they stay", x.count(5), told - 1);
                Due.due("one", x.feed(-1, 1), told);
            }
            Due.due("no more", x.feed(-1, n), Due.NONE);
            Due.due("they stay", x.count(5), 160);
        }
        OrdersMadeOne x = new OrdersMadeOne();
        for (int k = 1; k <= 39; k++) {
            x.feed(0, 4);
        }
        Due.due("just as many", x.feed(0, 4), 160);
    }

    private static void feedAnotherN() {
        Due.about("feed: NONE: .. n is not 1 .. 4");
        for (int n : new int[] {Integer.MIN_VALUE, -160, -4, -1, 0, 5, 8, 160, Integer.MAX_VALUE}) {
            Whole.refusedEverywhere("feed of " + n, x -> x.feed(0x01010101, n), Due.NONE);
        }
    }

    private static OrdersMadeOne fed(int... bytes) {
        OrdersMadeOne x = new OrdersMadeOne();
        x.join(2, Due.PUSH, Due.GO, 0, 0);
        x.join(4, Due.ADD, Due.SET, Due.TWICE, Due.HALT);
        for (int one : bytes) {
            x.feed(one << 24, 1);
        }
        return x;
    }

    private static void readAsANewProgram() {
        Due.about("read: The BYTES told are READ as a new PROGRAM (and are none then): its number.");
        OrdersMadeOne x = fed(16, 255, 39, 17, 7, 15, 0, 10, 3);
        x.program();
        Due.due("read", x.read(), 1);
        Due.dueOrders("read", x, 1, Due.PUSH, -1, Due.GO, 39, Due.ADD, 0, Due.SET, 7, Due.TWICE, 0, Due.HALT, 0,
            Due.MORE, 0, Due.IF, 3);
        Due.due("where a way leads", x.tell(1, 3, 3), 1);
        Due.due("none was done", x.tell(1, 0, 2), 0);
        Due.due("bytes told", x.count(5), 0);
        Due.due("the other one has none", x.count(10), 0);
        Due.due("order", x.order(1, Due.REST, 0), 8);
        // One that ran, and is gone again, leaves nothing in its place.
        x.image(0);
        Due.write(x, Due.REST, 0, Due.GO, 0);
        x.run(2, false, 9);
        x.again(0);
        x.feed(0x0e0e0000, 2);
        Due.due("read", x.read(), 2);
        Due.due("none was done", x.tell(2, 0, 2), 0);
        Due.due("no way leads there", x.tell(2, 0, 3), 0);
        // Into the midst of a row, where pack would have made no CODE of it: that is no reason to be none.
        OrdersMadeOne y = fed(17, 0, 9, 2);
        Due.due("read", y.read(), 0);
        Due.due("pack", y.pack(0), 5);
    }

    private static void readWithoutBytes() {
        Due.about("read: a PROGRAM without ORDERS has no BYTES, and is read back");
        OrdersMadeOne x = new OrdersMadeOne();
        for (int program = 0; program < 3; program++) {
            Due.due("read", x.read(), program);
            Due.due("orders", x.count(10 + program), 0);
        }
        Due.due("there are three", x.read(), Due.NONE);
    }

    private static void readWhereThereAreThree() {
        Due.about("read: NONE, and they stay: there are 3 PROGRAMS");
        Whole.refused("read", Whole.State.FULL, x -> x.read(), Due.NONE);
        OrdersMadeOne x = fed(14, 13);
        x.image(0);
        x.program();
        x.program();
        x.program();
        Due.due("read", x.read(), Due.NONE);
        Due.due("they stay", x.count(5), 2);
        Due.due("no orders came", x.count(12), 0);
        x.again(0);
        Due.due("read", x.read(), 0);
    }

    /** They are no PROGRAM, and stay; with others behind them that need not be so. */
    private static void dueNone(int... bytes) {
        OrdersMadeOne x = fed(bytes);
        String what = "read of " + bytes.length + " bytes that end with " + bytes[bytes.length - 1];
        Due.due(what, x.read(), Due.NONE);
        Due.due(what + ": they stay", x.count(5), bytes.length);
        Due.due(what + ": programs", x.count(0), 0);
        Due.due(what + ": once more", x.read(), Due.NONE);
        Due.due(what + ": a program", x.program(), 0);
        Due.due(what + ": without orders", x.count(10), 0);
        x.order(0, Due.REST, 0);
        Due.due(what + ": no way leads there", x.tell(0, 0, 3), 0);
        Due.due(what + ": they stay", x.count(5), bytes.length);
    }

    private static void readANumberThatNoCodeHas() {
        Due.about("read: NONE .. it is none: a number that no CODE has");
        for (int number : new int[] {18, 19, 21, 22, 127, 128, 255}) {
            dueNone(number);
            dueNone(14, number);
            dueNone(0, 5, 9, 0, number, 14);
        }
        OrdersMadeOne x = new OrdersMadeOne();
        x.feed(0x10000000, 1);
        Due.due("16 without joined orders", x.read(), Due.NONE);
        x.feed(0x15000000, 1);
        for (int kind = 1; kind <= 5; kind++) {
            x.join(2, kind, kind, 0, 0);
        }
        Due.due("21 with five", x.read(), Due.NONE);
        x.join(2, 6, 6, 0, 0);
        Due.due("21 with six", x.read(), 0);
        Due.dueOrders("as they stayed", x, 0, 1, 0, 1, 0, 6, 0, 6, 0);
        x.feed(0x16000000, 1);
        Due.due("22 with six", x.read(), Due.NONE);
    }

    private static void readOneByteTooFew() {
        Due.about("read: NONE .. it is none: one byte too few");
        for (int kind : new int[] {Due.PUSH, Due.GET, Due.SET, Due.GO, Due.IF, Due.MORE}) {
            dueNone(kind);
            dueNone(14, kind);
        }
        dueNone(16);
        dueNone(16, 5);
        dueNone(17);
        dueNone(14, 17);
        OrdersMadeOne x = fed(16, 5);
        Due.due("too few", x.read(), Due.NONE);
        x.feed(0x27000000, 1);
        Due.due("with the one that lacked", x.read(), 0);
        Due.dueOrders("both", x, 0, Due.PUSH, 5, Due.GO, 39);
    }

    private static void readAnArgumentThatCannotBe() {
        Due.about("read: NONE .. it is none: an ARGUMENT that can't be");
        for (int kind : new int[] {Due.GET, Due.SET, Due.MORE}) {
            Due.due("7", fed(kind, 7).read(), 0);
            dueNone(kind, 8);
            dueNone(kind, 128);
            dueNone(kind, 255);
        }
        for (int kind : new int[] {Due.GO, Due.IF}) {
            Due.due("39", fed(kind, 39).read(), 0);
            dueNone(kind, 40);
            dueNone(kind, 128);
            dueNone(kind, 255);
        }
        dueNone(16, 5, 40);
        dueNone(17, 8);
        for (int value : new int[] {0, 127, 128, 255}) {
            OrdersMadeOne x = fed(Due.PUSH, value);
            Due.due("push has all", x.read(), 0);
            Due.due("as it was", x.tell(0, 0, 1), value < 128 ? value : value - 256);
        }
    }

    private static OrdersMadeOne fedRests(int fours, int ones) {
        OrdersMadeOne x = new OrdersMadeOne();
        x.join(4, 14, 14, 14, 14);
        for (int k = 0; k < fours; k++) {
            x.feed(0x10000000, 1);
        }
        for (int k = 0; k < ones; k++) {
            x.feed(0x0e000000, 1);
        }
        return x;
    }

    private static void readMoreThanForty() {
        Due.about("read: NONE .. it is none: more than 40 ORDERS");
        int[][] forty = {{10, 0}, {9, 4}, {0, 40}};
        for (int[] one : forty) {
            OrdersMadeOne x = fedRests(one[0], one[1]);
            Due.due("forty", x.read(), 0);
            Due.due("orders", x.count(10), 40);
        }
        int[][] more = {{10, 1}, {9, 5}, {0, 41}, {11, 0}, {40, 0}, {0, 160}};
        for (int[] one : more) {
            OrdersMadeOne x = fedRests(one[0], one[1]);
            Due.due("more", x.read(), Due.NONE);
            Due.due("they stay", x.count(5), one[0] + one[1]);
            Due.due("programs", x.count(0), 0);
        }
        // In the midst of a row there are forty.
        OrdersMadeOne x = new OrdersMadeOne();
        x.join(3, 14, 14, 14, 0);
        for (int k = 0; k < 14; k++) {
            x.feed(0x10000000, 1);
        }
        Due.due("forty-two by three", x.read(), Due.NONE);
        Due.due("they stay", x.count(5), 14);
        OrdersMadeOne y = new OrdersMadeOne();
        for (int k = 0; k < 40; k++) {
            y.feed(0x00ff0000, 2);
        }
        Due.due("forty with their arguments", y.read(), 0);
        Due.due("the last one", y.tell(0, 39, 1), -1);
    }

    private static void countOfAll() {
        Due.about("count: How many: 0 PROGRAMS .. 10 and more: ORDERS of PROGRAM what - 10");
        int[][] want = {{0, 0, -1, -1, 0, 0, -1, -1, -1, -1, -1, -1, -1, -1},
            {2, 2, 3, 8, 1, 3, -1, -1, -1, -1, 6, 2, -1, -1},
            {3, 6, 25, 38, 2, 160, -1, -1, -1, -1, 40, 3, 3, -1}};
        for (Whole.State state : Whole.State.values()) {
            OrdersMadeOne x = Whole.in(state);
            for (int what = 0; what < 14; what++) {
                Due.due(state + ": count " + what, x.count(what), want[state.ordinal()][what]);
            }
        }
        OrdersMadeOne x = new OrdersMadeOne();
        Due.due("codes without a packed one", x.count(2), Due.NONE);
        Due.due("bytes without a packed one", x.count(3), Due.NONE);
        x.program();
        x.pack(0);
        Due.due("codes of one without orders", x.count(2), 0);
        Due.due("bytes of one without orders", x.count(3), 0);
    }

    private static void countAnotherWhat() {
        Due.about("count: NONE for another what.");
        for (int what : new int[] {Integer.MIN_VALUE, Integer.MIN_VALUE + 9, Integer.MIN_VALUE + 10,
            Integer.MIN_VALUE + 11, -10, -1, 6, 7, 8, 9, 13, 14, 100, Integer.MAX_VALUE}) {
            Whole.refusedEverywhere("count " + what, x -> x.count(what), Due.NONE);
        }
        Whole.refused("count 10", Whole.State.NEW, x -> x.count(10), Due.NONE);
        Whole.refused("count 12", Whole.State.MIDST, x -> x.count(12), Due.NONE);
    }

    private static void imageAsItIsNow() {
        Due.about("image: Image k (0 .. 2) is all that is told, as it is now: true");
        for (int k = 0; k < 3; k++) {
            OrdersMadeOne x = new OrdersMadeOne();
            Due.write(x, Due.PUSH, 5);
            Due.due("image", x.image(k), true);
            x.change(0, 0, 6);
            x.order(0, Due.REST, 0);
            Due.due("again", x.again(k), true);
            Due.dueOrders("as it was", x, 0, Due.PUSH, 5);
            x.change(0, 0, 7);
            Due.due("another image in its stead", x.image(k), true);
            x.change(0, 0, 8);
            x.again(k);
            Due.dueOrders("as it was later", x, 0, Due.PUSH, 7);
            for (int other = 0; other < 3; other++) {
                Due.due("no other one", x.again(other), other == k);
            }
        }
        for (Whole.State state : Whole.State.values()) {
            for (int k = 0; k < 3; k++) {
                int image = k;
                Whole.sameBesideImages("image " + k + ", other things, again", state, x -> {
                    x.image(image);
                    changeAll(x);
                    x.again(image);
                });
            }
        }
    }

    private static void changeAll(OrdersMadeOne x) {
        x.read();
        x.feed(0x0d0e0d0e, 4);
        x.program();
        x.order(0, Due.PUSH, 9);
        x.change(0, 0, 6);
        x.order(1, Due.GO, 2);
        x.part();
        x.join(3, 1, 2, 3, 0);
        x.run(0, false, 100);
        x.choose(2, true);
        x.take();
        x.choose(1, false);
        x.pack(1);
        x.run(0, true, 1);
    }

    private static void imageAnotherK() {
        Due.about("image: false for another k.");
        for (int k : new int[] {Integer.MIN_VALUE, -2, -1, 3, 4, Integer.MAX_VALUE}) {
            Whole.refusedEverywhere("image " + k, x -> x.image(k) ? 1 : 0, 0);
        }
    }

    private static void againOtherImagesStay() {
        Due.about("again: All that is as image k has it (other images stay): true");
        OrdersMadeOne x = new OrdersMadeOne();
        for (int k = 0; k < 3; k++) {
            x.image(k);
            x.program();
        }
        for (int k : new int[] {0, 1, 2, 2, 1, 0, 2, 0, 1}) {
            Due.due("again", x.again(k), true);
            Due.due("programs", x.count(0), k);
            x.program();
            x.join(2, 1, 2, 0, 0);
        }
        x.again(2);
        x.image(0);
        x.again(1);
        Due.due("image 1 stays", x.count(0), 1);
        x.again(0);
        Due.due("image 0 is another one", x.count(0), 2);
    }

    private static void againOfNone() {
        Due.about("again: false if there is none such.");
        for (int k : new int[] {Integer.MIN_VALUE, -2, -1, 3, 4, Integer.MAX_VALUE}) {
            Whole.refusedEverywhere("again " + k, x -> x.again(k) ? 1 : 0, 0);
        }
        for (int k = 0; k < 3; k++) {
            int image = k;
            Whole.refused("again " + k, Whole.State.NEW, x -> x.again(image) ? 1 : 0, 0);
        }
        Whole.refused("again 0", Whole.State.MIDST, x -> x.again(0) ? 1 : 0, 0);
        Whole.refused("again 2", Whole.State.MIDST, x -> x.again(2) ? 1 : 0, 0);
    }

    private static void toTheLastCall() {
        Due.about("An object is used for at most 512 calls after it has been made");
        OrdersMadeOne x = new OrdersMadeOne();
        x.program();
        x.order(0, Due.MORE, 0);
        x.order(0, Due.GO, 0);
        for (int call = 4; call <= 512; call++) {
            switch (call % 8) {
                case 0:
                    Due.due("call " + call, x.run(0, false, 20000), 3);
                    break;
                case 1:
                    Due.due("call " + call, x.choose(2, true), 10000);
                    break;
                case 2:
                    Due.due("call " + call, x.take(), 1);
                    break;
                case 3:
                    Due.due("call " + call, x.pack(0), call < 8 ? 2 : 1);
                    break;
                case 4:
                    Due.due("call " + call, x.run(0, true, 20000), call < 8 ? Due.NONE : 3);
                    break;
                case 5:
                    Due.due("call " + call, x.image(call % 3), true);
                    break;
                case 6:
                    Due.due("call " + call, x.cost(true), call < 8 ? 0 : 10000);
                    break;
                default:
                    Due.due("call " + call, x.change(0, 0, call % 7), true);
                    break;
            }
        }
    }
}
