/** Promises 6 to 8. */
public final class JoinTest {
    public static void main(String[] args) {
        lengths();
        kindsThatStandLastAlone();
        unlikeRows();
        atMostSix();
        Due.end();
    }

    private static void lengths() {
        for (int n : Due.ODD) {
            OrdersMadeOne x = new OrdersMadeOne();
            boolean can = n >= 2 && n <= 4;
            Due.due("join of " + n, x.join(n, 0, 1, 2, 3), can ? 0 : Due.NONE);
            Due.due("joined orders", x.count(1), can ? 1 : 0);
            for (int k : Due.ODD) {
                Due.due("kind " + k + " of " + n, x.joined(0, k), can && k >= 0 && k < n ? k : Due.NONE);
                if (k != 0) {
                    Due.due("kind of row " + k, x.joined(k, 0), Due.NONE);
                }
            }
        }
        for (int odd : Due.ODD) {
            OrdersMadeOne x = new OrdersMadeOne();
            boolean is = odd >= 0 && odd < 16;
            Due.due("kinds that do not count " + odd, x.join(2, 0, 1, odd, odd), 0);
            x.part();
            Due.due("last kind " + odd, x.join(4, 0, 1, 2, odd), is ? 0 : Due.NONE);
            Due.due("second kind " + odd, x.join(2, 0, odd, 0, 0), is ? x.count(1) - 1 : Due.NONE);
            if (!is) {
                Due.due("first kind " + odd, x.join(2, odd, 0, 0, 0), Due.NONE);
                Due.due("third kind " + odd, x.join(3, 0, 0, odd, 0), Due.NONE);
            }
        }
    }

    private static void kindsThatStandLastAlone() {
        for (int kind = 0; kind < 16; kind++) {
            boolean lastAlone = kind == Due.GO || kind == Due.IF || kind == Due.HALT;
            OrdersMadeOne x = new OrdersMadeOne();
            int[] answers = {x.join(2, kind, 6, 0, 0), x.join(3, 6, kind, 6, 0), x.join(4, 6, 6, kind, 4),
                x.join(2, 4, kind, 0, 0), x.join(3, 4, 6, kind, 0), x.join(4, 6, 6, 6, kind)};
            for (int k = 0; k < 6; k++) {
                int want = !lastAlone ? k : k < 3 ? Due.NONE : k - 3;
                Due.due("kind " + kind + " row " + k, answers[k], want);
            }
        }
    }

    private static void unlikeRows() {
        OrdersMadeOne x = new OrdersMadeOne();
        Due.due("a row", x.join(2, 0, 0, 5, 5), 0);
        Due.due("it is there", x.join(2, 0, 0, 6, 6), Due.NONE);
        Due.due("a longer one", x.join(3, 0, 0, 0, 9), 1);
        Due.due("one longer still", x.join(4, 0, 0, 0, 0), 2);
        Due.due("turned around", x.join(2, 1, 0, 0, 0), 3);
        Due.due("it is there", x.join(3, 0, 0, 0, 0), Due.NONE);
        Due.due("joined orders", x.count(1), 4);
    }

    private static void atMostSix() {
        OrdersMadeOne x = new OrdersMadeOne();
        for (int k = 0; k < 6; k++) {
            Due.due("join", x.join(2, k, 15, 0, 0), k);
        }
        Due.due("a seventh", x.join(2, 7, 15, 0, 0), Due.NONE);
        for (int k = 0; k < 6; k++) {
            Due.due("first kind", x.joined(k, 0), k);
            Due.due("second kind", x.joined(k, 1), 15);
            Due.due("behind", x.joined(k, 2), Due.NONE);
        }
        x.part();
        Due.due("parted", x.count(1), 0);
        Due.due("parted", x.joined(0, 0), Due.NONE);
        Due.due("numbers begin anew", x.join(3, 7, 8, 15, 0), 0);
    }
}
