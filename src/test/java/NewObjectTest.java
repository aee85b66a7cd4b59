/** Promise 1. */
public final class NewObjectTest {
    public static void main(String[] args) {
        OrdersMadeOne x = new OrdersMadeOne();
        Due.due("NONE", OrdersMadeOne.NONE, -1);
        int[] counts = {0, 0, -1, -1, 0, 0, -1, -1, -1, -1, -1, -1, -1, -1};
        for (int what = 0; what < counts.length; what++) {
            Due.due("count " + what, x.count(what), counts[what]);
        }
        for (int k : Due.ODD) {
            x = new OrdersMadeOne();
            Due.due("again " + k, x.again(k), false);
            Due.due("ran " + k, x.ran(k), Due.NONE);
            Due.due("bytes " + k, x.bytes(k), Due.NONE);
            Due.due("pack " + k, x.pack(k), Due.NONE);
            Due.due("run " + k, x.run(k, false, 10), Due.NONE);
            Due.due("run packed " + k, x.run(k, true, 10), Due.NONE);
            for (int i : Due.ODD) {
                Due.due("had " + k + " " + i, x.had(k, i), 0);
                Due.due("joined " + k + " " + i, x.joined(k, i), Due.NONE);
                Due.due("chosen " + k + " " + i, x.chosen(k, i), Due.NONE);
                Due.due("code " + k + " " + i, x.code(k, i), Due.NONE);
                Due.due("tell " + k + " " + i, x.tell(k, i, 0), Due.NONE);
            }
        }
        Due.due("take", x.take(), Due.NONE);
        Due.due("cost by places", x.cost(false), 0);
        Due.due("cost by runs", x.cost(true), 0);
        Due.due("nothing was changed", x.count(0), 0);
        Due.end();
    }
}
