/** Promises 22 and 23. */
public final class ImageTest {
    public static void main(String[] args) {
        numbers();
        allThatIsTold();
        anImageOfANewOne();
        imagesStay();
        Due.end();
    }

    private static void numbers() {
        OrdersMadeOne x = new OrdersMadeOne();
        for (int odd : Due.ODD) {
            boolean is = odd >= 0 && odd <= 2;
            Due.due("again of none " + odd, x.again(odd), false);
            Due.due("image " + odd, x.image(odd), is);
            Due.due("again " + odd, x.again(odd), is);
        }
    }

    private static OrdersMadeOne full() {
        OrdersMadeOne x = new OrdersMadeOne();
        Due.write(x, Due.PUSH, 5, Due.OUT, 0, Due.PUSH, 6, Due.SET, 3, Due.PUSH, 7, Due.GO, 6);
        Due.write(x, Due.PUSH, 1, Due.OUT, 0);
        x.join(2, Due.PUSH, Due.OUT, 0, 0);
        x.pack(0);
        x.run(0, false, 100);
        x.choose(1, false);
        x.feed(0x04040000, 2);
        return x;
    }

    private static void dueFull(String what, OrdersMadeOne x) {
        int[] counts = {2, 1, 5, 10, 1, 2, -1, -1, -1, -1, 6, 2, -1};
        for (int k = 0; k < counts.length; k++) {
            Due.due(what + ": count " + k, x.count(k), counts[k]);
        }
        Due.due(what + ": kind", x.tell(0, 1, 0), Due.OUT);
        Due.due(what + ": argument", x.tell(0, 2, 1), 6);
        Due.due(what + ": times", x.tell(0, 2, 2), 1);
        Due.due(what + ": led to", x.tell(0, 3, 3), 0);
        Due.due(what + ": joined", x.joined(0, 1), Due.OUT);
        Due.dueChosen(what, x, Due.row(Due.PUSH, Due.SET, Due.PUSH, Due.GO));
        Due.dueCodes(what, x, 2, 1, 1, 1, 1);
        Due.due(what + ": number", x.code(0, 0), 16);
        Due.due(what + ": byte", x.bytes(1), 5);
        Due.due(what + ": ran", x.ran(0), 6);
        Due.due(what + ": begun", x.ran(1), 6);
        Due.due(what + ": pile", x.ran(2), 1);
        Due.due(what + ": out", x.ran(3), 1);
        Due.due(what + ": place", x.ran(4), 6);
        Due.due(what + ": pile", x.had(0, 0), 7);
        Due.due(what + ": out", x.had(1, 0), 5);
        Due.due(what + ": register", x.had(2, 3), 6);
        Due.due(what + ": packed runs", x.run(0, true, 100), 0);
        Due.due(what + ": codes begun", x.ran(1), 5);
        Due.due(what + ": read", x.read(), 2);
        Due.due(what + ": kind read", x.tell(2, 1, 0), Due.TWICE);
        Due.due(what + ": take", x.take(), 1);
    }

    private static void changeAll(OrdersMadeOne x) {
        x.change(0, 0, 9);
        x.change(0, 2, 9);
        x.change(0, 4, 9);
        x.change(0, 5, 3);
        x.order(1, Due.HALT, 0);
        x.part();
        x.join(3, 1, 2, 3, 0);
        x.join(3, 1, 2, 4, 0);
        x.choose(2, false);
        x.feed(-1, 4);
        x.pack(1);
        x.run(0, false, 100);
        x.program();
    }

    private static void allThatIsTold() {
        OrdersMadeOne x = full();
        x.image(1);
        dueFull("before", x);
        changeAll(x);
        x.again(1);
        dueFull("again", x);
        changeAll(x);
        x.again(1);
        dueFull("again and again", x);
    }

    private static void anImageOfANewOne() {
        OrdersMadeOne x = new OrdersMadeOne();
        x.image(2);
        Due.write(x, Due.PUSH, 5, Due.GO, 0);
        x.join(2, 1, 2, 0, 0);
        x.pack(0);
        x.run(0, false, 100);
        x.choose(1, false);
        x.feed(0x04040000, 2);
        x.again(2);
        int[] counts = {0, 0, -1, -1, 0, 0, -1, -1, -1, -1, -1};
        for (int k = 0; k < counts.length; k++) {
            Due.due("new: count " + k, x.count(k), counts[k]);
        }
        Due.due("nothing was run", x.ran(0), Due.NONE);
        Due.due("nothing was run", x.had(0, 0), 0);
        Due.due("nothing is packed", x.run(0, true, 5), Due.NONE);
        Due.due("nothing was chosen", x.take(), Due.NONE);
        Due.due("a program", x.program(), 0);
        Due.due("without orders", x.tell(0, 0, 0), Due.NONE);
        x.order(0, Due.REST, 0);
        Due.due("to which none leads", x.tell(0, 0, 3), 0);
        Due.due("that were not done", x.tell(0, 0, 2), 0);
        x.run(0, false, 100);
        x.again(2);
        x.feed(0x04000000, 1);
        Due.due("read", x.read(), 0);
        Due.due("nor these", x.tell(0, 0, 2), 0);
        Due.due("cost by runs", x.cost(true), 0);
    }

    private static void imagesStay() {
        OrdersMadeOne x = new OrdersMadeOne();
        x.image(0);
        x.program();
        x.image(1);
        x.program();
        x.image(2);
        x.again(0);
        Due.due("image 0", x.count(0), 0);
        x.again(2);
        Due.due("image 2", x.count(0), 2);
        x.again(1);
        Due.due("image 1", x.count(0), 1);
        x.image(2);
        x.again(0);
        x.again(2);
        Due.due("image 2 is another one", x.count(0), 1);
        x.order(0, Due.ADD, 0);
        x.again(2);
        Due.due("it has nothing of what came later", x.count(10), 0);
    }
}
