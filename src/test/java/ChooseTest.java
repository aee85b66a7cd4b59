/** Promises 15 to 18. */
public final class ChooseTest {
    public static void main(String[] args) {
        costs();
        costByRunsHasItsOwnWays();
        nothingToChoose();
        theBestRow();
        fewerRows();
        theLeastRows();
        notIntoTheMidst();
        byRunsOrByPlaces();
        twoThatOverlap();
        taken();
        Due.end();
    }

    private static void costs() {
        OrdersMadeOne x = new OrdersMadeOne();
        Due.write(x, Due.PUSH, 1, Due.OUT, 0, Due.PUSH, 2, Due.OUT, 0, Due.HALT, 0);
        Due.write(x, Due.PUSH, 3, Due.OUT, 0, Due.GO, 0);
        Due.due("by places", x.cost(false), 8);
        Due.due("by runs, without one", x.cost(true), 0);
        x.run(1, false, 9);
        Due.due("by runs", x.cost(true), 9);
        x.run(0, false, 3);
        Due.due("by runs of both", x.cost(true), 12);
        x.join(2, Due.PUSH, Due.OUT, 0, 0);
        Due.due("by places, with a row", x.cost(false), 5);
        Due.due("by runs, with a row", x.cost(true), 8);
        x.pack(1);
        x.run(0, true, 2);
        Due.due("packed runs do not count", x.cost(true), 8);
        x.change(1, 0, 4);
        Due.due("a run that is forgotten", x.cost(true), 2);
        x.part();
        Due.due("without rows again", x.cost(false), 8);
    }

    private static void costByRunsHasItsOwnWays() {
        OrdersMadeOne x = new OrdersMadeOne();
        // The first is done once, the others three times: a code of places 1 .. 3 is better by runs.
        Due.write(x, Due.REST, 0, Due.MORE, 0, Due.GET, 0, Due.DROP, 0, Due.GO, 1);
        x.join(2, Due.MORE, Due.GET, 0, 0);
        x.join(3, Due.GET, Due.DROP, Due.GO, 0);
        x.run(0, false, 13);
        Due.due("by runs", x.cost(true), 1 + 3 + 3);
        Due.due("by places", x.cost(false), 3);
    }

    private static void nothingToChoose() {
        OrdersMadeOne x = new OrdersMadeOne();
        for (int odd : Due.ODD) {
            if (odd != 1 && odd != 2) {
                Due.due("choose " + odd, x.choose(odd, false), Due.NONE);
            }
        }
        Due.due("one that can't be asked does not count", x.take(), Due.NONE);
        Due.due("no programs", x.choose(2, false), 0);
        Due.due("none is chosen", x.count(4), 0);
        Due.due("take none", x.take(), 0);
        Due.write(x, Due.HALT, 0, Due.HALT, 0, Due.GO, 0);
        Due.due("no row can be", x.choose(2, false), 3);
        Due.dueChosen("no row can be", x);
        Due.write(x, Due.PUSH, 0, Due.OUT, 0);
        Due.due("no run", x.choose(2, true), 0);
        Due.dueChosen("no run", x);
        Due.due("one row", x.choose(1, false), 4);
        Due.dueChosen("one row", x, Due.row(0, 12));
        Due.due("another k", x.choose(3, true), Due.NONE);
        Due.dueChosen("leaves it", x, Due.row(0, 12));
    }

    private static void theBestRow() {
        OrdersMadeOne x = new OrdersMadeOne();
        // 1 2 three times saves 3, 4 5 6 7 once saves 3, with 4 5 6 once more it is 4 5 6.
        Due.writeKinds(x, 1, 2, 1, 2, 1, 2);
        Due.writeKinds(x, 4, 5, 6, 7, 4, 5, 6, 15);
        Due.due("one", x.choose(1, false), 10);
        Due.dueChosen("one", x, Due.row(4, 5, 6));
        Due.due("two", x.choose(2, false), 7);
        Due.dueChosen("two", x, Due.row(1, 2), Due.row(4, 5, 6));
    }

    private static void fewerRows() {
        OrdersMadeOne x = new OrdersMadeOne();
        Due.writeKinds(x, 5, 4, 3, 2);
        Due.due("two save no more", x.choose(2, false), 1);
        Due.dueChosen("two save no more", x, Due.row(5, 4, 3, 2));
        x.order(0, 1, 0);
        Due.due("nor here", x.choose(2, false), 2);
        Due.dueChosen("nor here", x, Due.row(4, 3, 2, 1));
        x.order(0, 6, 0);
        Due.due("but here", x.choose(2, false), 2);
        Due.dueChosen("but here", x, Due.row(1, 6), Due.row(5, 4, 3, 2));
    }

    private static void theLeastRows() {
        OrdersMadeOne x = new OrdersMadeOne();
        Due.writeKinds(x, 7, 1, 7, 1);
        Due.writeKinds(x, 7, 0, 7, 0);
        // 7 1 and 7 1 7 1: 2 and 3 saved; so 7 0 7 0 is the least of the best.
        Due.due("the lesser kind", x.choose(1, false), 5);
        Due.dueChosen("the lesser kind", x, Due.row(7, 0, 7, 0));
        Due.due("both", x.choose(2, false), 2);
        Due.dueChosen("both", x, Due.row(7, 0, 7, 0), Due.row(7, 1, 7, 1));
        OrdersMadeOne y = new OrdersMadeOne();
        // Each of 7 1, 7 1 2 and 7 1 3 saves two here.
        Due.writeKinds(y, 7, 1, 2);
        Due.writeKinds(y, 7, 1, 3);
        Due.due("one", y.choose(1, false), 4);
        Due.dueChosen("the one that others begin with", y, Due.row(7, 1));
        Due.due("two", y.choose(2, false), 2);
        Due.dueChosen("two", y, Due.row(7, 1, 2), Due.row(7, 1, 3));
    }

    private static void notIntoTheMidst() {
        OrdersMadeOne x = new OrdersMadeOne();
        Due.write(x, Due.GET, 0, Due.MORE, 0, Due.GET, 1, Due.IF, 1);
        Due.due("one", x.choose(1, false), 2);
        Due.dueChosen("one", x, Due.row(Due.MORE, Due.GET, Due.IF));
        Due.write(x, Due.HALT, 0, Due.DROP, 0, Due.HALT, 0);
        Due.due("what stands last alone", x.choose(2, false), 4);
        Due.dueChosen("what stands last alone", x, Due.row(Due.DROP, Due.HALT), Due.row(Due.MORE, Due.GET, Due.IF));
    }

    private static void byRunsOrByPlaces() {
        OrdersMadeOne x = new OrdersMadeOne();
        Due.write(x, Due.PUSH, 1, Due.PUSH, 2, Due.PUSH, 3, Due.PUSH, 4, Due.MORE, 0, Due.REST, 0, Due.GO, 4);
        x.run(0, false, 4 + 30);
        Due.due("by places", x.choose(1, false), 4);
        Due.dueChosen("by places", x, Due.row(0, 0, 0, 0));
        Due.due("by runs", x.choose(1, true), 14);
        Due.dueChosen("by runs", x, Due.row(15, 14, 9));
        Due.due("two by runs", x.choose(2, true), 11);
        Due.dueChosen("two by runs", x, Due.row(0, 0, 0, 0), Due.row(15, 14, 9));
        x.join(2, 15, 14, 0, 0);
        Due.due("joined orders do not count", x.choose(1, true), 14);
    }

    private static void twoThatOverlap() {
        OrdersMadeOne x = new OrdersMadeOne();
        // 1 2 1 saves four alone, and 1 2 1 2 saves three; together five, as 1 2 1 and 2 1 2 1 do, or 1 2 1 and 4 5.
        Due.writeKinds(x, 1, 2, 1, 2, 1, 2, 1);
        Due.writeKinds(x, 4, 5);
        Due.due("two", x.choose(2, false), 4);
        Due.dueChosen("two", x, Due.row(1, 2, 1), Due.row(1, 2, 1, 2));
        Due.due("one", x.choose(1, false), 5);
        Due.dueChosen("one", x, Due.row(1, 2, 1));
    }

    private static void taken() {
        OrdersMadeOne x = new OrdersMadeOne();
        Due.writeKinds(x, 1, 2, 1, 2, 3);
        x.join(2, 5, 5, 0, 0);
        x.join(2, 5, 6, 0, 0);
        x.join(2, 5, 7, 0, 0);
        Due.due("not asked by now", x.take(), Due.NONE);
        Due.due("joined orders stay", x.count(1), 3);
        int cost = x.choose(2, false);
        Due.due("not joined yet", x.joined(0, 0), 5);
        Due.due("take", x.take(), x.count(4));
        Due.due("those that there were are gone", x.count(1), x.count(4));
        for (int k = 0; k < x.count(1); k++) {
            for (int i = -1; i < 5; i++) {
                Due.due("kind", x.joined(k, i), x.chosen(k, i));
            }
        }
        Due.due("the cost with them", x.cost(false), cost);
        x.part();
        Due.due("they are chosen still", x.take(), x.count(4));
        for (int odd : Due.ODD) {
            if (odd < 0 || odd > 1) {
                Due.due("chosen " + odd, x.chosen(odd, 0), Due.NONE);
            }
            if (odd < 0 || odd > 3) {
                Due.due("chosen kind " + odd, x.chosen(0, odd), Due.NONE);
            }
        }
    }
}
