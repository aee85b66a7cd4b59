import java.util.ArrayList;
import java.util.Collections;
import java.util.List;
import java.util.TreeSet;

/**
 * The document in its plainest form, for tests: lists that are copied whole, all ways and all sets tried one by one.
 * A row is a text, a letter a kind, so that texts are ordered as rows are.
 */
final class Model {
    private static final int NONE = -1;
    private static final String WITH_ARGUMENT = "ahijkp";

    /** ORDERS as {kind, argument, times}. */
    private List<List<int[]>> programs = new ArrayList<>();
    private List<String> joined = new ArrayList<>();
    private List<String> chosen = null;
    private List<Integer> told = new ArrayList<>();
    private List<int[]> packed = null;
    /** CODES as {number, place, length}. */
    private List<int[]> codes = null;
    private List<Integer> written = null;
    /** Done, begun, pile, out, place. */
    private int[] ran = null;
    private List<Integer> pile = new ArrayList<>();
    private List<Integer> out = new ArrayList<>();
    private int[] registers = new int[8];
    private final Model[] images = new Model[3];

    private static char letter(int kind) {
        return (char) ('a' + kind);
    }

    private static boolean fits(int kind, int argument) {
        switch (kind) {
            case 0:
                return argument >= -128 && argument <= 127;
            case 7:
            case 8:
            case 15:
                return argument >= 0 && argument <= 7;
            case 9:
            case 10:
                return argument >= 0 && argument <= 39;
            default:
                return kind >= 0 && kind <= 15 && argument == 0;
        }
    }

    private static boolean lastAlone(int kind) {
        return kind == 9 || kind == 10 || kind == 13;
    }

    int program() {
        if (programs.size() == 3) {
            return NONE;
        }
        programs.add(new ArrayList<>());
        return programs.size() - 1;
    }

    private int[] find(int program, int place) {
        if (program < 0 || program >= programs.size() || place < 0 || place >= programs.get(program).size()) {
            return null;
        }
        return programs.get(program).get(place);
    }

    private static void forget(List<int[]> program) {
        for (int[] order : program) {
            order[2] = 0;
        }
    }

    int order(int program, int kind, int argument) {
        if (program < 0 || program >= programs.size() || !fits(kind, argument) || programs.get(program).size() == 40) {
            return NONE;
        }
        forget(programs.get(program));
        programs.get(program).add(new int[] {kind, argument, 0});
        return programs.get(program).size() - 1;
    }

    boolean change(int program, int place, int argument) {
        int[] order = find(program, place);
        if (order == null || WITH_ARGUMENT.indexOf(letter(order[0])) < 0 || !fits(order[0], argument)) {
            return false;
        }
        order[1] = argument;
        forget(programs.get(program));
        return true;
    }

    private static boolean ledTo(List<int[]> program, int place) {
        for (int[] order : program) {
            if ((order[0] == 9 || order[0] == 10) && order[1] == place) {
                return true;
            }
        }
        return false;
    }

    int tell(int program, int place, int what) {
        int[] order = find(program, place);
        if (order == null || what < 0 || what > 3) {
            return NONE;
        }
        return what == 3 ? (ledTo(programs.get(program), place) ? 1 : 0) : order[what];
    }

    int join(int n, int a, int b, int c, int d) {
        if (n < 2 || n > 4 || joined.size() == 6) {
            return NONE;
        }
        int[] kinds = {a, b, c, d};
        String row = "";
        for (int k = 0; k < n; k++) {
            if (kinds[k] < 0 || kinds[k] > 15 || lastAlone(kinds[k]) && k < n - 1) {
                return NONE;
            }
            row += letter(kinds[k]);
        }
        if (joined.contains(row)) {
            return NONE;
        }
        joined.add(row);
        return joined.size() - 1;
    }

    void part() {
        joined = new ArrayList<>();
    }

    private static int kindOf(List<String> rows, int k, int i) {
        if (rows == null || k < 0 || k >= rows.size() || i < 0 || i >= rows.get(k).length()) {
            return NONE;
        }
        return rows.get(k).charAt(i) - 'a';
    }

    int joined(int join, int k) {
        return kindOf(joined, join, k);
    }

    /** The row of so many ORDERS at a place, or null if no CODE could be one. */
    private static String rowAt(List<int[]> program, int place, int length) {
        if (place + length > program.size()) {
            return null;
        }
        String row = "";
        for (int k = 0; k < length; k++) {
            int kind = program.get(place + k)[0];
            if (k < length - 1 && lastAlone(kind) || k > 0 && ledTo(program, place + k)) {
                return null;
            }
            row += letter(kind);
        }
        return row;
    }

    /** The lengths of all CODES, of the ways with the fewest the one with the longest first. */
    private static List<Integer> bestWay(List<int[]> program, List<String> rows) {
        List<List<Integer>> from = new ArrayList<>(Collections.nCopies(program.size() + 1, null));
        from.set(program.size(), new ArrayList<>());
        for (int place = program.size() - 1; place >= 0; place--) {
            for (int length = 1; length <= 4; length++) {
                String row = rowAt(program, place, length);
                if (row == null || length > 1 && !rows.contains(row)) {
                    continue;
                }
                List<Integer> way = new ArrayList<>();
                way.add(length);
                way.addAll(from.get(place + length));
                if (from.get(place) == null || isBetter(way, from.get(place))) {
                    from.set(place, way);
                }
            }
        }
        return from.get(0);
    }

    private static boolean isBetter(List<Integer> way, List<Integer> other) {
        if (way.size() != other.size()) {
            return way.size() < other.size();
        }
        for (int k = 0; k < way.size(); k++) {
            if (!way.get(k).equals(other.get(k))) {
                return way.get(k) > other.get(k);
            }
        }
        return false;
    }

    int pack(int program) {
        if (program < 0 || program >= programs.size()) {
            return NONE;
        }
        packed = copyOrders(programs.get(program));
        codes = new ArrayList<>();
        written = new ArrayList<>();
        int place = 0;
        for (int length : bestWay(packed, joined)) {
            int number = length == 1 ? packed.get(place)[0] : 16 + joined.indexOf(rowAt(packed, place, length));
            codes.add(new int[] {number, place, length});
            written.add(number);
            for (int k = 0; k < length; k++) {
                int[] order = packed.get(place + k);
                if (WITH_ARGUMENT.indexOf(letter(order[0])) >= 0) {
                    written.add(Math.floorMod(order[1], 256));
                }
            }
            place += length;
        }
        return codes.size();
    }

    int code(int k, int what) {
        return codes == null || k < 0 || k >= codes.size() || what < 0 || what > 2 ? NONE : codes.get(k)[what];
    }

    int bytes(int k) {
        return written == null || k < 0 || k >= written.size() ? NONE : written.get(k);
    }

    int run(int program, boolean isPacked, int most) {
        if (most < 0 || most > 20000 || isPacked && packed == null
            || !isPacked && (program < 0 || program >= programs.size())) {
            return NONE;
        }
        ran = new int[5];
        pile = new ArrayList<>();
        out = new ArrayList<>();
        registers = new int[8];
        int end;
        if (isPacked) {
            end = runCodes(most);
        } else {
            forget(programs.get(program));
            end = runOrders(programs.get(program), most);
        }
        ran[2] = pile.size();
        ran[3] = out.size();
        return end;
    }

    private int runOrders(List<int[]> program, int most) {
        while (true) {
            if (ran[4] >= program.size()) {
                return 0;
            }
            if (ran[0] == most) {
                return 3;
            }
            ran[1]++;
            int[] order = program.get(ran[4]);
            int end = once(order);
            if (end == 0 || end == NONE) {
                order[2]++;
            }
            if (end != NONE) {
                return end;
            }
        }
    }

    private int runCodes(int most) {
        while (true) {
            int[] code = null;
            for (int[] one : codes) {
                code = one[1] == ran[4] ? one : code;
            }
            if (code == null) {
                return 0;
            }
            if (ran[0] == most) {
                return 3;
            }
            ran[1]++;
            for (int k = 0; k < code[2]; k++) {
                if (ran[0] == most) {
                    return 3;
                }
                int end = once(packed.get(code[1] + k));
                if (end != NONE) {
                    return end;
                }
            }
        }
    }

    private int pop() {
        return pile.remove(pile.size() - 1);
    }

    /** How the run ends by one ORDER, or NONE. */
    private int once(int[] order) {
        int kind = order[0];
        int argument = order[1];
        int wants = "bcdfl".indexOf(letter(kind)) >= 0 ? 2 : "egikm".indexOf(letter(kind)) >= 0 ? 1 : 0;
        if (pile.size() < wants) {
            return 1;
        }
        if ("aeh".indexOf(letter(kind)) >= 0 && pile.size() == 24 || kind == 12 && out.size() == 40) {
            return 2;
        }
        ran[0]++;
        if (kind == 13) {
            return 0;
        }
        int top = wants > 0 ? pop() : 0;
        int second = wants > 1 ? pop() : 0;
        int next = ran[4] + 1;
        switch (kind) {
            case 0: pile.add(argument); break;
            case 1: pile.add(second + top); break;
            case 2: pile.add(second - top); break;
            case 3: pile.add(second * top); break;
            case 4: pile.add(top); pile.add(top); break;
            case 5: pile.add(top); pile.add(second); break;
            case 7: pile.add(registers[argument]); break;
            case 8: registers[argument] = top; break;
            case 9: next = argument; break;
            case 10: next = top == 0 ? argument : next; break;
            case 11: pile.add(second < top ? 1 : 0); break;
            case 12: out.add(top); break;
            case 15: registers[argument]++; break;
            default: break;
        }
        ran[4] = next;
        return NONE;
    }

    int ran(int what) {
        return ran == null || what < 0 || what > 4 ? NONE : ran[what];
    }

    int had(int what, int k) {
        if (what == 2) {
            return k >= 0 && k < 8 ? registers[k] : 0;
        }
        List<Integer> numbers = what == 0 ? pile : what == 1 ? out : new ArrayList<>();
        return k >= 0 && k < numbers.size() ? numbers.get(k) : 0;
    }

    private static int leastCost(List<int[]> program, String[][] rowsThere, List<String> rows, boolean byRuns) {
        int[] least = new int[program.size() + 1];
        for (int place = program.size() - 1; place >= 0; place--) {
            int weight = byRuns ? program.get(place)[2] : 1;
            least[place] = weight + least[place + 1];
            for (int length = 2; length <= 4; length++) {
                String row = rowsThere[place][length];
                if (row != null && rows.contains(row)) {
                    least[place] = Math.min(least[place], weight + least[place + length]);
                }
            }
        }
        return least[0];
    }

    /** The rows at each place of each PROGRAM by their lengths, or null. */
    private List<String[][]> allRows() {
        List<String[][]> all = new ArrayList<>();
        for (List<int[]> program : programs) {
            String[][] rows = new String[program.size()][5];
            for (int place = 0; place < program.size(); place++) {
                for (int length = 2; length <= 4; length++) {
                    rows[place][length] = rowAt(program, place, length);
                }
            }
            all.add(rows);
        }
        return all;
    }

    private int costOfAll(List<String[][]> rowsThere, List<String> rows, boolean byRuns) {
        int sum = 0;
        for (int k = 0; k < programs.size(); k++) {
            sum += leastCost(programs.get(k), rowsThere.get(k), rows, byRuns);
        }
        return sum;
    }

    int cost(boolean byRuns) {
        return costOfAll(allRows(), joined, byRuns);
    }

    int choose(int k, boolean byRuns) {
        if (k != 1 && k != 2) {
            return NONE;
        }
        TreeSet<String> found = new TreeSet<>();
        List<String[][]> rowsThere = allRows();
        for (String[][] places : rowsThere) {
            for (String[] lengths : places) {
                for (String row : lengths) {
                    if (row != null) {
                        found.add(row);
                    }
                }
            }
        }
        List<String> rows = new ArrayList<>(found);
        List<List<String>> sets = new ArrayList<>();
        sets.add(List.of());
        for (String row : rows) {
            sets.add(List.of(row));
        }
        for (int one = 0; k == 2 && one < rows.size(); one++) {
            for (int two = one + 1; two < rows.size(); two++) {
                sets.add(List.of(rows.get(one), rows.get(two)));
            }
        }
        int least = Integer.MAX_VALUE;
        for (List<String> set : sets) {
            int cost = costOfAll(rowsThere, set, byRuns);
            if (cost < least) {
                least = cost;
                chosen = set;
            }
        }
        return least;
    }

    int chosen(int k, int i) {
        return kindOf(chosen, k, i);
    }

    int take() {
        if (chosen == null) {
            return NONE;
        }
        joined = new ArrayList<>(chosen);
        return joined.size();
    }

    int feed(int four, int n) {
        if (n < 1 || n > 4 || told.size() + n > 160) {
            return NONE;
        }
        int[] parts = {four >>> 24, four >> 16 & 255, four >> 8 & 255, four & 255};
        for (int k = 0; k < n; k++) {
            told.add(parts[k]);
        }
        return told.size();
    }

    int read() {
        if (programs.size() == 3) {
            return NONE;
        }
        List<int[]> program = new ArrayList<>();
        List<Integer> left = new ArrayList<>(told);
        while (!left.isEmpty()) {
            int number = left.remove(0);
            if (number >= 16 + joined.size()) {
                return NONE;
            }
            String row = number < 16 ? "" + letter(number) : joined.get(number - 16);
            for (char letter : row.toCharArray()) {
                int argument = 0;
                if (WITH_ARGUMENT.indexOf(letter) >= 0) {
                    if (left.isEmpty()) {
                        return NONE;
                    }
                    argument = left.remove(0);
                    argument = letter == 'a' && argument > 127 ? argument - 256 : argument;
                }
                if (!fits(letter - 'a', argument)) {
                    return NONE;
                }
                program.add(new int[] {letter - 'a', argument, 0});
            }
        }
        if (program.size() > 40) {
            return NONE;
        }
        told = new ArrayList<>();
        programs.add(program);
        return programs.size() - 1;
    }

    int count(int what) {
        switch (what) {
            case 0:
                return programs.size();
            case 1:
                return joined.size();
            case 2:
                return codes == null ? NONE : codes.size();
            case 3:
                return written == null ? NONE : written.size();
            case 4:
                return chosen == null ? 0 : chosen.size();
            case 5:
                return told.size();
            default:
                return what >= 10 && what - 10 < programs.size() ? programs.get(what - 10).size() : NONE;
        }
    }

    boolean image(int k) {
        if (k < 0 || k > 2) {
            return false;
        }
        images[k] = new Model();
        images[k].copyFrom(this);
        return true;
    }

    boolean again(int k) {
        if (k < 0 || k > 2 || images[k] == null) {
            return false;
        }
        copyFrom(images[k]);
        return true;
    }

    private static List<int[]> copyOrders(List<int[]> orders) {
        if (orders == null) {
            return null;
        }
        List<int[]> copy = new ArrayList<>();
        for (int[] order : orders) {
            copy.add(order.clone());
        }
        return copy;
    }

    private void copyFrom(Model other) {
        programs = new ArrayList<>();
        for (List<int[]> program : other.programs) {
            programs.add(copyOrders(program));
        }
        joined = new ArrayList<>(other.joined);
        chosen = other.chosen;
        told = new ArrayList<>(other.told);
        packed = copyOrders(other.packed);
        codes = other.codes;
        written = other.written;
        ran = other.ran == null ? null : other.ran.clone();
        pile = new ArrayList<>(other.pile);
        out = new ArrayList<>(other.out);
        registers = other.registers.clone();
    }
}
