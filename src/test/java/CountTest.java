/** Promise 21. */
public final class CountTest {
    public static void main(String[] args) {
        OrdersMadeOne x = new OrdersMadeOne();
        Due.write(x, Due.PUSH, 1, Due.OUT, 0, Due.PUSH, 2, Due.OUT, 0);
        x.program();
        x.join(2, Due.PUSH, Due.OUT, 0, 0);
        x.join(3, Due.PUSH, Due.OUT, Due.HALT, 0);
        x.choose(1, false);
        x.feed(0, 3);
        x.pack(0);
        int[] want = {2, 2, 2, 4, 1, 3, -1, -1, -1, -1, 4, 0, -1, -1};
        for (int what = 0; what < want.length; what++) {
            Due.due("count " + what, x.count(what), want[what]);
        }
        for (int odd : Due.ODD) {
            if (odd < 0 || odd > 11) {
                Due.due("count " + odd, x.count(odd), Due.NONE);
            }
        }
        x.pack(1);
        Due.due("codes of none", x.count(2), 0);
        Due.due("bytes of none", x.count(3), 0);
        x.program();
        Due.due("programs", x.count(0), 3);
        Due.due("orders of the third", x.count(12), 0);
        x.order(2, Due.ADD, 0);
        Due.due("orders of the third", x.count(12), 1);
        Due.due("there is no fourth", x.count(13), Due.NONE);
        Due.end();
    }
}
