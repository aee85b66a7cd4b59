/** Promises 9 to 11. */
public final class PackTest {
    public static void main(String[] args) {
        withoutRows();
        fewestCodes();
        longestFirstOfSeveral();
        notIntoTheMidst();
        bytesOfArguments();
        asItWasThen();
        wrongOnes();
        Due.end();
    }

    private static void withoutRows() {
        OrdersMadeOne x = new OrdersMadeOne();
        x.program();
        Due.due("pack of no orders", x.pack(0), 0);
        Due.dueCodes("no orders", x);
        Due.dueBytes("no orders", x);
        Due.write(x, Due.PUSH, 5, Due.TWICE, 0, Due.GO, 0);
        Due.due("pack", x.pack(1), 3);
        Due.dueCodes("single orders", x, 1, 1, 1);
        Due.dueBytes("single orders", x, 0, 5, 4, 9, 0);
        Due.due("number", x.code(2, 0), 9);
    }

    private static void fewestCodes() {
        OrdersMadeOne x = new OrdersMadeOne();
        Due.writeKinds(x, 0, 1, 2, 3, 4);
        x.join(2, 0, 1, 0, 0);
        x.join(4, 1, 2, 3, 4);
        Due.due("pack", x.pack(0), 2);
        Due.dueCodes("not the first that stands there", x, 1, 4);
        Due.due("number", x.code(0, 0), 0);
        Due.due("number", x.code(1, 0), 17);
        x.join(3, 2, 3, 4, 0);
        Due.due("pack", x.pack(0), 2);
        Due.dueCodes("the longer first code", x, 2, 3);
        Due.due("number", x.code(0, 0), 16);
        Due.due("number", x.code(1, 0), 18);
    }

    private static void longestFirstOfSeveral() {
        OrdersMadeOne x = new OrdersMadeOne();
        Due.writeKinds(x, 14, 14, 14, 14, 14, 14, 14);
        x.join(2, 14, 14, 0, 0);
        x.join(3, 14, 14, 14, 0);
        Due.due("pack", x.pack(0), 3);
        Due.dueCodes("3 3 1 ahead of 3 2 2", x, 3, 3, 1);
        x.part();
        x.join(4, 14, 14, 14, 14);
        x.join(2, 14, 14, 0, 0);
        Due.due("pack", x.pack(0), 3);
        Due.dueCodes("4 2 1 ahead of 4 1 2", x, 4, 2, 1);
        Due.dueBytes("numbers", x, 16, 17, 14);
    }

    private static void notIntoTheMidst() {
        OrdersMadeOne x = new OrdersMadeOne();
        Due.write(x, Due.GET, 0, Due.MORE, 0, Due.GET, 1, Due.IF, 2);
        x.join(4, Due.GET, Due.MORE, Due.GET, Due.IF);
        x.join(2, Due.MORE, Due.GET, 0, 0);
        Due.due("a way leads into both", x.pack(0), 4);
        x.join(2, Due.GET, Due.IF, 0, 0);
        Due.due("but to the beginning of this one", x.pack(0), 3);
        Due.dueCodes("at its beginning", x, 1, 1, 2);
        x.change(0, 3, 0);
        Due.due("to the very beginning", x.pack(0), 1);
        x.change(0, 3, 3);
        Due.due("to itself", x.pack(0), 3);
        Due.dueCodes("to itself", x, 1, 2, 1);
        x.change(0, 3, 4);
        Due.due("behind the last", x.pack(0), 1);
        Due.write(x, Due.GET, 0, Due.MORE, 0, Due.GET, 1, Due.IF, 39);
        Due.due("other programs lead nowhere here", x.pack(1), 1);
    }

    private static void bytesOfArguments() {
        OrdersMadeOne x = new OrdersMadeOne();
        Due.write(x, Due.PUSH, -1, Due.ADD, 0, Due.PUSH, -128, Due.SET, 7, Due.MORE, 6, Due.PUSH, 127, Due.IF, 39);
        x.join(4, Due.PUSH, Due.ADD, Due.PUSH, Due.SET);
        x.join(2, Due.PUSH, Due.IF, 0, 0);
        Due.due("pack", x.pack(0), 3);
        Due.dueBytes("arguments behind the number", x, 16, 255, 128, 7, 15, 6, 17, 127, 39);
    }

    private static void asItWasThen() {
        OrdersMadeOne x = new OrdersMadeOne();
        Due.write(x, Due.PUSH, 9, Due.OUT, 0);
        x.join(2, Due.PUSH, Due.OUT, 0, 0);
        x.pack(0);
        x.part();
        x.change(0, 0, 8);
        x.order(0, Due.HALT, 0);
        Due.dueCodes("as it was then", x, 2);
        Due.dueBytes("as it was then", x, 16, 9);
        Due.due("number", x.code(0, 0), 16);
        Due.due("pack of none", x.pack(1), Due.NONE);
        Due.dueCodes("and stays", x, 2);
        Due.due("pack anew", x.pack(0), 3);
        Due.dueBytes("anew", x, 0, 8, 12, 13);
    }

    private static void wrongOnes() {
        OrdersMadeOne x = new OrdersMadeOne();
        Due.write(x, Due.PUSH, 9, Due.OUT, 0);
        x.pack(0);
        for (int odd : Due.ODD) {
            if (odd != 0) {
                Due.due("pack " + odd, x.pack(odd), Due.NONE);
            }
            if (odd < 0 || odd > 1) {
                Due.due("code " + odd, x.code(odd, 0), Due.NONE);
            }
            if (odd < 0 || odd > 2) {
                Due.due("code what " + odd, x.code(0, odd), Due.NONE);
                Due.due("bytes " + odd, x.bytes(odd), Due.NONE);
            }
        }
    }
}
