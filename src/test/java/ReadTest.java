/** Promises 19 and 20. */
public final class ReadTest {
    public static void main(String[] args) {
        fed();
        fourByFour();
        readOrders();
        readJoined();
        noProgram();
        tooManyOrders();
        noRoom();
        packedAndReadBack();
        Due.end();
    }

    private static void fed() {
        OrdersMadeOne x = new OrdersMadeOne();
        for (int odd : Due.ODD) {
            if (odd < 1 || odd > 4) {
                Due.due("feed of " + odd, x.feed(0, odd), Due.NONE);
            }
        }
        Due.due("none came", x.count(5), 0);
        for (int k = 1; k <= 39; k++) {
            Due.due("feed", x.feed(-1, 4), 4 * k);
        }
        Due.due("feed", x.feed(-1, 1), 157);
        Due.due("there would be more", x.feed(-1, 4), Due.NONE);
        Due.due("they stay", x.count(5), 157);
        Due.due("as many as there can be", x.feed(-1, 3), 160);
        Due.due("one more", x.feed(-1, 1), Due.NONE);
        Due.due("bytes told", x.count(5), 160);
    }

    private static void fourByFour() {
        OrdersMadeOne x = new OrdersMadeOne();
        // push 1, add, push -1, twice: the first n of four, the highest first.
        x.feed(0x00010100, 4);
        x.feed(0xff777777, 1);
        x.feed(0x0400ff99, 3);
        Due.due("read", x.read(), 0);
        Due.dueOrders("four by four", x, 0, Due.PUSH, 1, Due.ADD, 0, Due.PUSH, -1, Due.TWICE, 0, Due.PUSH, -1);
        Due.due("told ones are none then", x.count(5), 0);
        Due.due("nothing told is a program without orders", x.read(), 1);
        Due.due("its orders", x.count(11), 0);
    }

    private static void readOrders() {
        for (int kind = 0; kind < 16; kind++) {
            for (int value = 0; value < 256; value++) {
                OrdersMadeOne x = new OrdersMadeOne();
                x.feed(kind << 24 | value << 16, 2);
                int most = kind == Due.GET || kind == Due.SET || kind == Due.MORE ? 7
                    : kind == Due.GO || kind == Due.IF ? 39 : kind == Due.PUSH ? 255 : -1;
                boolean single = most < 0;
                boolean can = single ? value < 16 && argumentless(value) : value <= most;
                Due.due("read " + kind + " " + value, x.read(), can ? 0 : Due.NONE);
                Due.due("bytes told", x.count(5), can ? 0 : 2);
                if (can && !single) {
                    Due.due("argument", x.tell(0, 0, 1), kind == Due.PUSH ? (byte) value : value);
                }
            }
        }
    }

    private static boolean argumentless(int kind) {
        return kind != Due.PUSH && kind != Due.GET && kind != Due.SET && kind != Due.GO && kind != Due.IF
            && kind != Due.MORE;
    }

    private static void readJoined() {
        OrdersMadeOne x = new OrdersMadeOne();
        x.join(2, Due.ADD, Due.ADD, 0, 0);
        x.join(4, Due.PUSH, Due.ADD, Due.SET, Due.IF);
        x.feed(0x11800705, 4);
        x.feed(0x10100000, 1);
        Due.due("read", x.read(), 0);
        Due.dueOrders("joined", x, 0, Due.PUSH, -128, Due.ADD, 0, Due.SET, 7, Due.IF, 5, Due.ADD, 0, Due.ADD, 0);
        Due.due("ways lead", x.tell(0, 5, 3), 1);
        x.feed(0x11800708, 4);
        Due.due("read by those that there are", x.read(), 1);
        x.part();
        x.feed(0x11800705, 4);
        Due.due("they are gone", x.read(), Due.NONE);
        x.join(2, Due.ADD, Due.ADD, 0, 0);
        Due.due("this one is not there", x.read(), Due.NONE);
        x.join(4, Due.PUSH, Due.ADD, Due.SET, Due.IF);
        Due.due("now it is", x.read(), 2);
    }

    private static void noProgram() {
        int[][] wrong = {{16}, {255}, {0}, {1, 7}, {7, 8}, {8, 255}, {15, 128}, {9, 40}, {10}, {17}, {1, 1, 0}};
        for (int[] bytes : wrong) {
            OrdersMadeOne x = new OrdersMadeOne();
            for (int one : bytes) {
                x.feed(one << 24, 1);
            }
            Due.due("no program, " + bytes[0], x.read(), Due.NONE);
            Due.due("they stay", x.count(5), bytes.length);
            Due.due("programs", x.count(0), 0);
            Due.due("and a new one is without orders", x.program(), 0);
            Due.due("orders", x.count(10), 0);
            Due.due("nor was it led to", x.order(0, 1, 0) + x.tell(0, 0, 3), 0);
        }
        OrdersMadeOne x = new OrdersMadeOne();
        x.join(3, Due.PUSH, Due.PUSH, Due.GO, 0);
        x.feed(0x10010200, 3);
        Due.due("one byte too few in a row", x.read(), Due.NONE);
        x.feed(0x28000000, 1);
        Due.due("an argument that can't be in a row", x.read(), Due.NONE);
        Due.due("they stay", x.count(5), 4);
    }

    private static void tooManyOrders() {
        OrdersMadeOne x = new OrdersMadeOne();
        x.join(4, Due.ADD, Due.ADD, Due.ADD, Due.ADD);
        for (int k = 0; k < 10; k++) {
            x.feed(0x10000000, 1);
        }
        x.image(0);
        Due.due("forty orders", x.read(), 0);
        Due.due("orders", x.count(10), 40);
        x.again(0);
        x.feed(0x01000000, 1);
        Due.due("41 orders", x.read(), Due.NONE);
        Due.due("they stay", x.count(5), 11);
    }

    private static void noRoom() {
        OrdersMadeOne x = new OrdersMadeOne();
        x.program();
        x.program();
        x.program();
        x.feed(0x01000000, 1);
        Due.due("there are three", x.read(), Due.NONE);
        Due.due("they stay", x.count(5), 1);
    }

    private static void packedAndReadBack() {
        OrdersMadeOne x = new OrdersMadeOne();
        Due.write(x, Due.MORE, 0, Due.GET, 0, Due.TWICE, 0, Due.OUT, 0, Due.PUSH, -3, Due.ADD, 0, Due.IF, 8,
            Due.GO, 0, Due.HALT, 0);
        x.choose(2, false);
        x.take();
        x.pack(0);
        for (int k = 0; k < x.count(3); k++) {
            x.feed(x.bytes(k) << 24, 1);
        }
        Due.due("read", x.read(), 1);
        Due.due("orders", x.count(11), x.count(10));
        for (int place = 0; place < x.count(10); place++) {
            Due.due("kind", x.tell(1, place, 0), x.tell(0, place, 0));
            Due.due("argument", x.tell(1, place, 1), x.tell(0, place, 1));
            Due.due("led to", x.tell(1, place, 3), x.tell(0, place, 3));
        }
    }
}
