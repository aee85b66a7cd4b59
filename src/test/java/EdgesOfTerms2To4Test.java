/** Terms 2 to 4, JOINED ORDERS, PACKING, rows CHOSEN and BYTES: a method for each sentence that names an edge. */
public final class EdgesOfTerms2To4Test {
    public static void main(String[] args) {
        atMostSix();
        rowsOfTwoToFour();
        eachWithItsOwnArguments();
        unlikeRows();
        lastPlaceAlone();
        kindByKind();
        noCodeGoesBeyondTheEnd();
        leadsIntoTheMidst();
        leadsFromWithin();
        onlyGoAndIfLead();
        leadsOfThisProgramAlone();
        fewestCodes();
        firstCodeLongest();
        secondCodeLongest();
        packedEndsInTheMidst();
        costByPlaces();
        costByRuns();
        waysAreAskedByThatCost();
        standSomewhere();
        withItAlone();
        atMostKRows();
        fewerRows();
        leastRow();
        nextRow();
        lesserKindAhead();
        begunWithAhead();
        numbersOfCodes();
        bytesOfArguments();
        lowestEightBits();
        Due.end();
    }

    private static void atMostSix() {
        Due.about("JOINED ORDERS, at most 6, from 0 on");
        OrdersMadeOne x = new OrdersMadeOne();
        for (int k = 0; k < 6; k++) {
            Due.due("it is not there yet", x.joined(k, 0), Due.NONE);
            Due.due("join", x.join(2, k, k, 0, 0), k);
            Due.due("now it is", x.joined(k, 0), k);
        }
        Due.due("a seventh", x.join(2, 6, 6, 0, 0), Due.NONE);
        Due.due("it is not there", x.joined(6, 0), Due.NONE);
        Due.due("joined orders", x.count(1), 6);
    }

    private static void rowsOfTwoToFour() {
        Due.about("rows of 2 .. 4 kinds of ORDERS");
        for (int n = 2; n <= 4; n++) {
            OrdersMadeOne x = new OrdersMadeOne();
            Due.due("join of " + n, x.join(n, 1, 2, 3, 4), 0);
            for (int k = 0; k < 4; k++) {
                Due.due("kind " + k + " of " + n, x.joined(0, k), k < n ? k + 1 : Due.NONE);
            }
        }
        for (int n : new int[] {Integer.MIN_VALUE, -2, -1, 0, 1, 5, 6, Integer.MAX_VALUE}) {
            Whole.refusedEverywhere("join of " + n, x -> x.join(n, 1, 2, 3, 4), Due.NONE);
        }
    }

    private static void eachWithItsOwnArguments() {
        Due.about("rows of .. ORDERS, each with its own ARGUMENTS");
        OrdersMadeOne x = new OrdersMadeOne();
        Due.write(x, Due.PUSH, 1, Due.SET, 2, Due.PUSH, -1, Due.SET, 7, Due.PUSH, 1, Due.SET, 2);
        x.join(2, Due.PUSH, Due.SET, 0, 0);
        Due.due("one row for all", x.pack(0), 3);
        Due.dueBytes("each has its own", x, 16, 1, 2, 16, 255, 7, 16, 1, 2);
    }

    private static void unlikeRows() {
        Due.about("JOINED ORDERS: .. unlike rows");
        OrdersMadeOne x = new OrdersMadeOne();
        int[][] rows = {{2, 1, 2, 0, 0}, {3, 1, 2, 0, 0}, {4, 1, 2, 0, 0}, {2, 2, 1, 0, 0}, {3, 1, 2, 1, 0}};
        for (int k = 0; k < rows.length; k++) {
            int[] row = rows[k];
            Due.due("join", x.join(row[0], row[1], row[2], row[3], row[4]), k);
            Due.due("the same", x.join(row[0], row[1], row[2], row[3], row[4]), Due.NONE);
        }
        Due.due("like it as far as it counts", x.join(2, 1, 2, 7, 7), Due.NONE);
        Due.due("like it as far as it counts", x.join(3, 1, 2, 1, 9), Due.NONE);
        Due.due("joined orders", x.count(1), 5);
        x.part();
        Due.due("those that are gone do not count", x.join(2, 1, 2, 0, 0), 0);
    }

    private static void lastPlaceAlone() {
        Due.about("go, if and halt may stand in the last place alone");
        for (int kind : new int[] {Due.GO, Due.IF, Due.HALT}) {
            for (int n = 2; n <= 4; n++) {
                for (int place = 0; place < n; place++) {
                    OrdersMadeOne x = new OrdersMadeOne();
                    int[] row = {Due.REST, Due.REST, Due.REST, Due.REST};
                    row[place] = kind;
                    int want = place == n - 1 ? 0 : Due.NONE;
                    String what = "kind " + kind + " in place " + place + " of " + n;
                    Due.due(what, x.join(n, row[0], row[1], row[2], row[3]), want);
                    row[n - 1] = kind;
                    Due.due(what + " and last", x.join(n, row[0], row[1], row[2], row[3]), Due.NONE);
                }
            }
        }
        OrdersMadeOne x = new OrdersMadeOne();
        Due.due("behind the last place it does not count", x.join(2, 1, 1, Due.HALT, Due.GO), 0);
    }

    private static void kindByKind() {
        Due.about("a JOINED one that stands there kind by kind");
        OrdersMadeOne x = new OrdersMadeOne();
        Due.writeKinds(x, 1, 2, 3, 4);
        x.join(4, 1, 2, 3, 5);
        x.join(4, 0, 2, 3, 4);
        x.join(3, 2, 1, 3, 0);
        x.join(2, 3, 3, 0, 0);
        Due.due("none stands there", x.pack(0), 4);
        x.join(4, 1, 2, 3, 4);
        Due.due("all of it does", x.pack(0), 1);
        Due.due("by the number of the row that stands there", x.code(0, 0), 20);
    }

    private static void noCodeGoesBeyondTheEnd() {
        Due.about("each is one ORDER, or a JOINED one that stands there");
        OrdersMadeOne x = new OrdersMadeOne();
        Due.writeKinds(x, 14, 14, 14);
        x.join(4, 14, 14, 14, 14);
        Due.due("three of the four", x.pack(0), 3);
        x.order(0, 14, 0);
        Due.due("four", x.pack(0), 1);
        Due.writeKinds(x, 14, 14, 14);
        Due.due("what stood elsewhere does not count", x.pack(1), 3);
        // Behind forty ORDERS there is no room at all.
        OrdersMadeOne y = new OrdersMadeOne();
        Due.write(y, Due.times(40, Due.REST, 0));
        y.join(3, 14, 14, 14, 0);
        Due.due("forty by three", y.pack(0), 14);
        Due.due("the last one", y.code(13, 2), 1);
        y.join(4, 14, 14, 14, 14);
        Due.due("forty by four", y.pack(0), 10);
        Due.due("the last one", y.code(9, 1), 36);
    }

    private static void leadsIntoTheMidst() {
        Due.about("no place to which a go or an if of the PROGRAM leads lies in it but at its beginning");
        for (int kind : new int[] {Due.GO, Due.IF}) {
            for (int n = 2; n <= 4; n++) {
                for (int place = 0; place <= 7; place++) {
                    OrdersMadeOne x = new OrdersMadeOne();
                    // What leads there is never done itself.
                    int[] rests = Due.times(n, Due.REST, 0);
                    Due.write(x, Due.behind(rests, Due.HALT, 0, kind, place, Due.HALT, 0));
                    x.join(n, Due.REST, Due.REST, Due.REST, Due.REST);
                    boolean into = place > 0 && place < n;
                    Due.due(n + " with a way to " + place, x.pack(0), into ? n + 3 : 4);
                    Due.due("the first one", x.code(0, 2), into ? 1 : n);
                }
            }
        }
    }

    private static void leadsFromWithin() {
        Due.about("no place to which a go or an if .. leads: one of the same CODE, too");
        for (int kind : new int[] {Due.GO, Due.IF}) {
            for (int place = 0; place < 40; place++) {
                OrdersMadeOne x = new OrdersMadeOne();
                Due.write(x, Due.REST, 0, Due.REST, 0, Due.REST, 0, kind, place);
                x.join(4, Due.REST, Due.REST, Due.REST, kind);
                Due.due("a way to " + place, x.pack(0), place > 0 && place < 4 ? 4 : 1);
            }
        }
    }

    private static void onlyGoAndIfLead() {
        Due.about("a go or an if .. leads: other ARGUMENTS do not");
        for (int kind : new int[] {Due.PUSH, Due.GET, Due.SET, Due.MORE}) {
            OrdersMadeOne x = new OrdersMadeOne();
            Due.write(x, kind, 1, kind, 2, kind, 3, kind, 1);
            x.join(4, kind, kind, kind, kind);
            Due.due("kind " + kind, x.pack(0), 1);
            for (int place = 0; place < 4; place++) {
                Due.due("led to", x.tell(0, place, 3), 0);
            }
        }
    }

    private static void leadsOfThisProgramAlone() {
        Due.about("a go or an if of the PROGRAM: of another one it does not count");
        OrdersMadeOne x = new OrdersMadeOne();
        Due.write(x, Due.GO, 1, Due.GO, 2);
        Due.write(x, Due.REST, 0, Due.REST, 0, Due.REST, 0);
        Due.write(x, Due.GO, 1, Due.IF, 2);
        x.join(3, Due.REST, Due.REST, Due.REST, 0);
        Due.due("pack", x.pack(1), 1);
        Due.due("cost", x.cost(false), 5);
    }

    private static void fewestCodes() {
        Due.about("Of all ways that with the fewest CODES");
        OrdersMadeOne x = new OrdersMadeOne();
        Due.writeKinds(x, 1, 2, 3, 4, 5, 6, 1);
        x.join(4, 1, 2, 3, 4);
        x.join(2, 5, 6, 0, 0);
        x.join(3, 1, 2, 3, 0);
        x.join(3, 4, 5, 6, 0);
        Due.due("pack", x.pack(0), 3);
        Due.dueCodes("the first one is longest", x, 4, 2, 1);
        x.join(4, 4, 5, 6, 1);
        Due.due("pack", x.pack(0), 2);
        Due.dueCodes("fewer, though the first one is shorter", x, 3, 4);
    }

    private static void firstCodeLongest() {
        Due.about("of several that whose first CODE is longest");
        int[][] lengths = {{2, 3}, {3, 2}};
        for (int[] first : lengths) {
            OrdersMadeOne x = new OrdersMadeOne();
            Due.writeKinds(x, 14, 14, 14, 14, 14);
            // By whatever numbers the rows have.
            x.join(first[0], 14, 14, 14, 0);
            x.join(first[1], 14, 14, 14, 0);
            Due.due("pack", x.pack(0), 2);
            Due.dueCodes("three, then two", x, 3, 2);
        }
        OrdersMadeOne x = new OrdersMadeOne();
        Due.writeKinds(x, 1, 2, 3);
        x.join(2, 2, 3, 0, 0);
        Due.due("only so", x.pack(0), 2);
        Due.dueCodes("only so", x, 1, 2);
        x.join(2, 1, 2, 0, 0);
        Due.due("so, too", x.pack(0), 2);
        Due.dueCodes("so, too", x, 2, 1);
    }

    private static void secondCodeLongest() {
        Due.about("and of these the one whose second CODE is, and so on");
        OrdersMadeOne x = new OrdersMadeOne();
        Due.writeKinds(x, 14, 14, 14, 14, 14, 14, 14);
        x.join(2, 14, 14, 0, 0);
        x.join(3, 14, 14, 14, 0);
        Due.due("pack", x.pack(0), 3);
        Due.dueCodes("the second one", x, 3, 3, 1);
        // A lone ORDER first, since no row has it.
        OrdersMadeOne y = new OrdersMadeOne();
        Due.writeKinds(y, 13, 14, 14, 14, 14, 14, 14, 14);
        y.join(2, 14, 14, 0, 0);
        y.join(3, 14, 14, 14, 0);
        Due.due("pack", y.pack(0), 4);
        Due.dueCodes("the third one", y, 1, 3, 3, 1);
        OrdersMadeOne z = new OrdersMadeOne();
        Due.writeKinds(z, 14, 14, 14, 14, 14, 14, 14, 14, 14, 14);
        z.join(4, 14, 14, 14, 14);
        z.join(3, 14, 14, 14, 0);
        z.join(2, 14, 14, 0, 0);
        Due.due("pack", z.pack(0), 3);
        Due.dueCodes("4 4 2 ahead of 4 3 3", z, 4, 4, 2);
    }

    private static void packedEndsInTheMidst() {
        Due.about("A RUN of a PACKED one does CODE by CODE what its ORDERS do, one by one.");
        OrdersMadeOne x = new OrdersMadeOne();
        Due.write(x, Due.PUSH, 4, Due.SET, 1, Due.DROP, 0, Due.MORE, 0);
        x.join(4, Due.PUSH, Due.SET, Due.DROP, Due.MORE);
        Due.due("pack", x.pack(0), 1);
        Due.due("as 1", x.run(0, true, 10), 1);
        Due.dueDone("as 1", x, 2, 2);
        Due.due("what came ahead of it is done", x.had(2, 1), 4);
        Due.due("what comes behind it is not", x.had(2, 0), 0);
        for (int most = 0; most < 3; most++) {
            Due.due("as 3", x.run(0, true, most), 3);
            Due.dueDone("as 3", x, most, most);
            Due.due("codes begun", x.ran(1), most == 0 ? 0 : 1);
        }
        OrdersMadeOne y = new OrdersMadeOne();
        Due.write(y, Due.behind(Due.times(23, Due.GET, 0), Due.MORE, 1, Due.PUSH, 1, Due.PUSH, 1, Due.MORE, 1));
        y.join(4, Due.MORE, Due.PUSH, Due.PUSH, Due.MORE);
        Due.due("pack", y.pack(0), 24);
        Due.due("as 2", y.run(0, true, 100), 2);
        Due.dueDone("as 2", y, 25, 25);
        Due.due("codes begun", y.ran(1), 24);
        OrdersMadeOne z = new OrdersMadeOne();
        Due.write(z, Due.PUSH, 4, Due.HALT, 0, Due.PUSH, 5);
        z.join(2, Due.PUSH, Due.HALT, 0, 0);
        Due.due("pack", z.pack(0), 2);
        Due.due("as 0", z.run(0, true, 100), 0);
        Due.dueDone("by halt, the last of its code", z, 2, 1);
    }

    private static void costByPlaces() {
        Due.about("each way to PACK them costs, for each CODE, 1 (by places)");
        OrdersMadeOne x = new OrdersMadeOne();
        Due.due("no programs", x.cost(false), 0);
        x.program();
        Due.due("no orders", x.cost(false), 0);
        Due.write(x, Due.times(40, Due.REST, 0));
        Due.due("forty orders", x.cost(false), 40);
        x.join(4, 14, 14, 14, 14);
        Due.due("by four", x.cost(false), 10);
        Due.write(x, Due.times(39, Due.REST, 0));
        Due.due("and nine of four, three of one", x.cost(false), 10 + 9 + 3);
    }

    private static void costByRuns() {
        Due.about("how often the ORDER at its beginning was done in the latest RUN of that PROGRAM "
            + "that was not PACKED");
        OrdersMadeOne x = new OrdersMadeOne();
        Due.write(x, Due.REST, 0, Due.REST, 0, Due.GO, 1);
        Due.write(x, Due.MORE, 0);
        Due.due("without one", x.cost(true), 0);
        x.run(0, false, 0);
        Due.due("none done", x.cost(true), 0);
        x.run(0, false, 7);
        Due.due("seven", x.cost(true), 7);
        x.run(1, false, 7);
        Due.due("of that program: the other one's adds to it", x.cost(true), 8);
        x.pack(0);
        x.run(0, true, 20);
        Due.due("not packed", x.cost(true), 8);
        x.run(0, false, 3);
        Due.due("the latest", x.cost(true), 4);
        x.join(2, 14, 14, 0, 0);
        Due.due("a way leads between them", x.cost(true), 4);
        x.join(2, 14, 9, 0, 0);
        Due.due("1 for the first, 1 for the second with the third, 1 for the other", x.cost(true), 3);
        x.run(0, false, 20000);
        Due.due("the most", x.cost(true), 1 + 10000 + 1);
        x.part();
        Due.due("the most", x.cost(true), 20000 + 1);
        // ORDERS that were never done cost nothing.
        x.change(0, 2, 0);
        x.run(0, false, 1);
        Due.due("those that were not done", x.cost(true), 1 + 1);
    }

    private static void waysAreAskedByThatCost() {
        Due.about("(Ways are asked by that cost here.)");
        OrdersMadeOne x = new OrdersMadeOne();
        Due.write(x, Due.PUSH, 1, Due.REST, 0, Due.REST, 0, Due.HALT, 0, Due.REST, 0);
        x.join(3, Due.REST, Due.REST, Due.HALT, 0);
        x.join(2, Due.PUSH, Due.REST, 0, 0);
        // The first two are done, no other: 2 1 1 1 costs 1 by RUNS, 1 3 1 costs 2, though it has fewer CODES.
        x.run(0, false, 2);
        Due.due("by runs", x.cost(true), 1);
        Due.due("by places", x.cost(false), 3);
        Due.due("pack is by the number of codes", x.pack(0), 3);
        Due.dueCodes("pack", x, 1, 3, 1);
    }

    private static void standSomewhere() {
        Due.about("rows .. that stand somewhere in the PROGRAMS so that a CODE could be one");
        OrdersMadeOne x = new OrdersMadeOne();
        Due.write(x, Due.REST, 0);
        Due.write(x, Due.MORE, 0);
        Due.due("not from one program into the next", x.choose(2, false), 2);
        Due.dueChosen("none", x);
        OrdersMadeOne y = new OrdersMadeOne();
        Due.write(y, Due.REST, 0, Due.REST, 0, Due.GO, 1);
        Due.due("not where a way leads into the midst", y.choose(1, false), 2);
        Due.dueChosen("one", y, Due.row(14, 9));
        y.change(0, 2, 2);
        Due.due("nor here", y.choose(1, false), 2);
        Due.dueChosen("one", y, Due.row(14, 14));
        y.change(0, 2, 0);
        Due.due("to the beginning", y.choose(1, false), 1);
        Due.dueChosen("one", y, Due.row(14, 14, 9));
        y.change(0, 2, 3);
        Due.due("behind", y.choose(1, false), 1);
        for (int kind : new int[] {Due.GO, Due.IF, Due.HALT}) {
            OrdersMadeOne z = new OrdersMadeOne();
            Due.writeKinds(z, kind, 14);
            Due.due("not behind go, if or halt", z.choose(2, false), 2);
            Due.dueChosen("none", z);
        }
        OrdersMadeOne z = new OrdersMadeOne();
        Due.writeKinds(z, 1, 2, 3, 4, 5);
        Due.due("four at most", z.choose(1, false), 2);
        Due.dueChosen("four at most", z, Due.row(1, 2, 3, 4));
    }

    private static void withItAlone() {
        Due.about("with it alone, without the JOINED ORDERS that there are");
        OrdersMadeOne x = new OrdersMadeOne();
        Due.writeKinds(x, 1, 2, 3, 1, 2, 3);
        x.join(3, 1, 2, 3, 0);
        Due.due("with those that there are", x.cost(false), 2);
        Due.due("one", x.choose(1, false), 2);
        Due.dueChosen("it counts as any other", x, Due.row(1, 2, 3));
        x.part();
        x.join(2, 5, 6, 0, 0);
        Due.due("one", x.choose(1, false), 2);
        Due.due("they are there still", x.joined(0, 0), 5);
        Due.due("and alone", x.count(1), 1);
    }

    private static void atMostKRows() {
        Due.about("of all sets of at most k rows, 1 or 2");
        OrdersMadeOne x = new OrdersMadeOne();
        Due.writeKinds(x, 1, 2, 13, 3, 4, 13, 5, 6, 13);
        Due.due("one", x.choose(1, false), 7);
        Due.due("rows", x.count(4), 1);
        Due.due("two", x.choose(2, false), 5);
        Due.due("rows", x.count(4), 2);
        Due.due("one again", x.choose(1, false), 7);
        Due.due("rows", x.count(4), 1);
    }

    private static void fewerRows() {
        Due.about("of several that with fewer rows");
        OrdersMadeOne x = new OrdersMadeOne();
        Due.writeKinds(x, 1, 2, 3, 4);
        Due.due("two save no more than one", x.choose(2, false), 1);
        Due.dueChosen("one", x, Due.row(1, 2, 3, 4));
        Due.due("nor one more than none", x.choose(2, true), 0);
        Due.dueChosen("none", x);
        // 1 2 together with 8 1 2 costs the same and has the lesser row, but is one row more.
        OrdersMadeOne y = new OrdersMadeOne();
        Due.writeKinds(y, 8, 1, 2);
        Due.due("one", y.choose(2, false), 1);
        Due.dueChosen("one", y, Due.row(8, 1, 2));
    }

    private static void leastRow() {
        Due.about("then that whose least row is least");
        OrdersMadeOne x = new OrdersMadeOne();
        Due.writeKinds(x, 8, 3, 13);
        Due.writeKinds(x, 7, 4, 13);
        Due.writeKinds(x, 7, 5, 13);
        Due.due("one", x.choose(1, false), 7);
        Due.dueChosen("one", x, Due.row(7, 4, 13));
        Due.due("two", x.choose(2, false), 5);
        Due.dueChosen("two", x, Due.row(7, 4, 13), Due.row(7, 5, 13));
    }

    private static void nextRow() {
        Due.about("then the next one's");
        OrdersMadeOne x = new OrdersMadeOne();
        // The least saves most; of the others, that save the same, the least.
        Due.writeKinds(x, 0, 0, 0, 13);
        Due.writeKinds(x, 9, 14, 13, 8, 13);
        Due.writeKinds(x, 9, 12, 13, 11, 13);
        x.change(1, 0, 39);
        x.change(2, 0, 39);
        Due.due("two", x.choose(2, false), 10);
        Due.dueChosen("two", x, Due.row(0, 0, 0, 13), Due.row(8, 13));
    }

    private static void lesserKindAhead() {
        Due.about("rows by kinds: the first place at which they are not alike, the lesser kind ahead");
        int[][] kinds = {{0, 1}, {8, 10}, {9, 10}, {14, 15}, {2, 12}, {7, 15}};
        for (int[] pair : kinds) {
            for (int turned = 0; turned < 2; turned++) {
                OrdersMadeOne x = new OrdersMadeOne();
                Due.writeKinds(x, 14, pair[turned]);
                Due.writeKinds(x, 14, pair[1 - turned]);
                Due.due("one", x.choose(1, false), 3);
                Due.dueChosen(pair[0] + " ahead of " + pair[1], x, Due.row(14, pair[0]));
                Due.due("two", x.choose(2, false), 2);
                Due.dueChosen("both", x, Due.row(14, pair[0]), Due.row(14, pair[1]));
            }
        }
        OrdersMadeOne x = new OrdersMadeOne();
        Due.writeKinds(x, 3, 0, 0, 0);
        Due.writeKinds(x, 2, 15, 15, 15);
        Due.writeKinds(x, 3, 0, 1, 0);
        Due.due("the first place counts ahead of others", x.choose(1, false), 9);
        Due.dueChosen("one", x, Due.row(2, 15, 15, 15));
        Due.due("two", x.choose(2, false), 6);
        Due.dueChosen("two", x, Due.row(2, 15, 15, 15), Due.row(3, 0, 0, 0));
    }

    private static void begunWithAhead() {
        Due.about("a row that the other one begins with, ahead of it");
        OrdersMadeOne x = new OrdersMadeOne();
        Due.write(x, Due.REST, 0, Due.MORE, 0, Due.PUSH, 0, Due.HALT, 0, Due.GO, 3);
        Due.write(x, Due.REST, 0, Due.MORE, 0);
        // Alone 14 15 saves two, and so does 14 15 0.
        Due.due("one", x.choose(1, false), 5);
        Due.dueChosen("the shorter one", x, Due.row(14, 15));
        Due.due("two", x.choose(2, false), 4);
        Due.dueChosen("the shorter one first", x, Due.row(14, 15), Due.row(14, 15, 0));
        // By RUNS a row of three may save no more than that of two with which it begins.
        OrdersMadeOne y = new OrdersMadeOne();
        Due.write(y, Due.REST, 0, Due.MORE, 0, Due.PUSH, 0);
        y.run(0, false, 2);
        Due.due("by runs", y.choose(1, true), 1);
        Due.dueChosen("the shorter one", y, Due.row(14, 15));
        y.run(0, false, 3);
        Due.due("by runs", y.choose(1, true), 1);
        Due.dueChosen("all three", y, Due.row(14, 15, 0));
    }

    private static void numbersOfCodes() {
        Due.about("its number (an ORDER's own; 16 and more for JOINED ones)");
        OrdersMadeOne x = new OrdersMadeOne();
        x.program();
        for (int kind = 0; kind < 16; kind++) {
            x.order(0, kind, kind == Due.GO || kind == Due.IF ? 39 : 0);
        }
        x.pack(0);
        for (int kind = 0; kind < 16; kind++) {
            Due.due("number of kind " + kind, x.code(kind, 0), kind);
        }
        OrdersMadeOne y = new OrdersMadeOne();
        Due.writeKinds(y, 1, 1, 2, 2, 3, 3, 4, 4, 5, 5, 6, 6);
        for (int kind = 1; kind <= 6; kind++) {
            y.join(2, kind, kind, 0, 0);
        }
        Due.due("pack", y.pack(0), 6);
        Due.dueBytes("joined ones", y, 16, 17, 18, 19, 20, 21);
    }

    private static void bytesOfArguments() {
        Due.about("then the ARGUMENTS of its ORDERS that have one, a byte each");
        OrdersMadeOne x = new OrdersMadeOne();
        Due.write(x, Due.times(40, Due.PUSH, 9));
        x.pack(0);
        Due.due("the most", x.count(3), 80);
        Due.due("the last one", x.bytes(79), 9);
        Due.due("behind it", x.bytes(80), Due.NONE);
        x.join(4, 0, 0, 0, 0);
        x.pack(0);
        Due.due("by fours", x.count(3), 50);
        Due.due("the last number", x.bytes(45), 16);
        Due.write(x, Due.GET, 7, Due.SET, 0, Due.MORE, 1, Due.GO, 39, Due.TWICE, 0, Due.PUSH, 1, Due.IF, 0);
        x.join(4, Due.GET, Due.SET, Due.MORE, Due.GO);
        x.join(3, Due.TWICE, Due.PUSH, Due.IF, 0);
        x.pack(1);
        Due.dueBytes("of those alone that have one", x, 17, 7, 0, 1, 39, 18, 1, 0);
    }

    private static void lowestEightBits() {
        Due.about("(of push: its lowest 8 bits)");
        OrdersMadeOne x = new OrdersMadeOne();
        Due.write(x, Due.PUSH, -128, Due.PUSH, -127, Due.PUSH, -1, Due.PUSH, 0, Due.PUSH, 127);
        x.pack(0);
        Due.dueBytes("push", x, 0, 128, 0, 129, 0, 255, 0, 0, 0, 127);
    }
}
