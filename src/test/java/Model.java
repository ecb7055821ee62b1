import java.util.ArrayDeque;
import java.util.ArrayList;
import java.util.Collections;
import java.util.Deque;
import java.util.HashSet;
import java.util.List;
import java.util.Map;
import java.util.Set;
import java.util.TreeMap;

/**
 * The document once more, written the slow and plain way and with other means than the class:
 * texts are read sign by sign with a stack of what is open, laws are reckoned from their text,
 * ways come from a table of all distances, sums from trying all orders.
 */
final class Model {
    private static final int NEAR = 40;
    private static final int FAR = 41;
    private static final int MUCH = 1000000;

    /** A stone: X, Y, slippery, under. */
    private TreeMap<Integer, int[]> stones = new TreeMap<>();
    private final TreeMap<Integer, Integer> people = new TreeMap<>();
    private final List<Integer> tape = new ArrayList<>();
    private List<String> rules = new ArrayList<>();
    private int night = 0;
    private int drawn = 1;
    private TreeMap<Integer, int[]> keptStones = null;
    private int keptNight = 0;
    private int keptDrawn = 0;
    private int moved = 0;
    private int stayed = 0;

    private static TreeMap<Integer, int[]> copy(TreeMap<Integer, int[]> from) {
        TreeMap<Integer, int[]> to = new TreeMap<>();
        for (Map.Entry<Integer, int[]> e : from.entrySet()) {
            to.put(e.getKey(), e.getValue().clone());
        }
        return to;
    }

    boolean stone(int i, int x, int y, int slippery) {
        if (i < 0 || i > 39 || x < 0 || x > 39 || y < 1 || y > 20 || slippery < 0 || slippery > 9) {
            return false;
        }
        int there = find(x, y);
        if (there >= 0 && there != i) {
            return false;
        }
        stones.put(i, new int[] {x, y, slippery, 0});
        return true;
    }

    boolean take(int i) {
        return stones.remove(i) != null;
    }

    boolean under(int i, boolean is) {
        if (!stones.containsKey(i)) {
            return false;
        }
        stones.get(i)[3] = is ? 1 : 0;
        return true;
    }

    boolean person(int p, int stride) {
        if (p < 0 || p > 7 || stride < 1 || stride > 30) {
            return false;
        }
        people.put(p, stride);
        return true;
    }

    int feed(int... five) {
        if (tape.size() + 20 > 260) {
            return -1;
        }
        for (int four : five) {
            for (int k = 3; k >= 0; k--) {
                tape.add(four >>> 8 * k & 255);
            }
        }
        return tape.size();
    }

    /** Null: no such n, or too few bytes. */
    private String text(int n, int most) {
        if (n < 1 || n > most || n > tape.size()) {
            return null;
        }
        StringBuilder all = new StringBuilder();
        for (int k = 0; k < n; k++) {
            all.append((char) (int) tape.get(k));
        }
        tape.clear();
        return all.toString();
    }

    int law(int n) {
        String text = text(n, 240);
        if (text == null) {
            return -1;
        }
        int fault = lawFault(text);
        if (fault < 0) {
            return fault;
        }
        rules = new ArrayList<>(List.of(text.split(";")));
        return rules.size();
    }

    private static int fault(int number, int place) {
        return -1000 * number - place;
    }

    private static int lawFault(String text) {
        Deque<Character> open = new ArrayDeque<>();
        Deque<Boolean> isRight = new ArrayDeque<>();
        String state = "letter";
        int digits = 0;
        int count = 0;
        for (int at = 0; at <= text.length(); at++) {
            char c = at < text.length() ? text.charAt(at) : '\0';
            boolean isDigit = c >= '0' && c <= '9';
            if (state.equals("number")) {
                if (isDigit) {
                    if (++digits > 5) {
                        return fault(2, at);
                    }
                    continue;
                }
                state = "behind";
            }
            if (state.equals("letter")) {
                if (c == 0 || "udobx".indexOf(c) < 0) {
                    return fault(1, at);
                }
                if (++count > 16) {
                    return fault(4, at);
                }
                state = c == 'x' ? "open" : "factor";
                continue;
            }
            if (state.equals("open")) {
                if (c != '(') {
                    return fault(1, at);
                }
                open.push('(');
                isRight.push(false);
                state = "test";
                continue;
            }
            if (state.equals("test") && (c == '!' || c == '(')) {
                if (open.size() == 6) {
                    return fault(5, at);
                }
                open.push(c);
                isRight.push(false);
                continue;
            }
            if (state.equals("test") || state.equals("factor")) {
                if (c == '[') {
                    if (open.size() == 6) {
                        return fault(5, at);
                    }
                    open.push('[');
                    isRight.push(false);
                    state = "factor";
                } else if (isDigit) {
                    digits = 1;
                    state = "number";
                } else if (c != 0 && "ixysenrg".indexOf(c) >= 0) {
                    state = "behind";
                } else {
                    return fault(1, at);
                }
                continue;
            }
            if (state.equals("behind")) {
                if (c != 0 && "+-*/%".indexOf(c) >= 0) {
                    state = "factor";
                    continue;
                }
                if (open.isEmpty()) {
                    if (c != '(') {
                        return fault(1, at);
                    }
                    open.push('(');
                    isRight.push(false);
                    state = "test";
                    continue;
                }
                if (open.peek() == '[') {
                    if (c != ']') {
                        return fault(1, at);
                    }
                    open.pop();
                    isRight.pop();
                    continue;
                }
                if (!isRight.peek()) {
                    if (c == 0 || "<>=".indexOf(c) < 0) {
                        return fault(1, at);
                    }
                    isRight.pop();
                    isRight.push(true);
                    state = "factor";
                    continue;
                }
                state = "tested";
            }
            if (state.equals("tested")) {
                while (open.peek() == '!') {
                    open.pop();
                    isRight.pop();
                }
                if (c == '&' || c == '|') {
                    isRight.pop();
                    isRight.push(false);
                    state = "test";
                } else if (c == ')') {
                    open.pop();
                    isRight.pop();
                    state = open.isEmpty() ? "ruled" : "tested";
                } else {
                    return fault(1, at);
                }
                continue;
            }
            if (at < text.length()) {
                if (c != ';') {
                    return fault(1, at);
                }
                state = "letter";
            }
        }
        return 0;
    }

    /** Thrown where something is divided by 0. */
    private static final class Refused extends Exception {
        private static final long serialVersionUID = 1L;
    }

    /** Reckons a rule from its text, for one stone. */
    private final class Reckoner {
        private final String text;
        private final int stone;
        private final int draw;
        private int at = 1;

        Reckoner(String text, int stone, int draw) {
            this.text = text;
            this.stone = stone;
            this.draw = draw;
        }

        /** Behind the E, without asking for its value. */
        void passSum() throws Refused {
            if (text.charAt(0) != 'x') {
                sum(false);
            }
        }

        boolean choice(boolean isAsked) throws Refused {
            boolean any = part(isAsked);
            while (text.charAt(at) == '|') {
                at++;
                any |= part(isAsked && !any);
            }
            return any;
        }

        boolean part(boolean isAsked) throws Refused {
            boolean all = test(isAsked);
            while (text.charAt(at) == '&') {
                at++;
                all &= test(isAsked && all);
            }
            return all && isAsked;
        }

        boolean test(boolean isAsked) throws Refused {
            if (text.charAt(at) == '!') {
                at++;
                return !test(isAsked);
            }
            if (text.charAt(at) == '(') {
                at++;
                boolean holds = choice(isAsked);
                at++;
                return holds;
            }
            long left = sum(isAsked);
            char sign = text.charAt(at++);
            long right = sum(isAsked);
            return sign == '<' ? left < right : sign == '>' ? left > right : left == right;
        }

        int sum(boolean isAsked) throws Refused {
            long value = term(isAsked);
            while (text.charAt(at) == '+' || text.charAt(at) == '-') {
                char sign = text.charAt(at++);
                long more = term(isAsked);
                value = (int) (sign == '+' ? value + more : value - more);
            }
            return (int) value;
        }

        int term(boolean isAsked) throws Refused {
            long value = factor(isAsked);
            while ("*/%".indexOf(text.charAt(at)) >= 0) {
                char sign = text.charAt(at++);
                long by = factor(isAsked);
                if (sign == '*') {
                    value = (int) (value * by);
                } else if (isAsked && by == 0) {
                    throw new Refused();
                } else if (isAsked) {
                    value = (int) (sign == '/' ? value / by : value % by);
                }
            }
            return (int) value;
        }

        int factor(boolean isAsked) throws Refused {
            char c = text.charAt(at++);
            if (c == '[') {
                int value = sum(isAsked);
                at++;
                return value;
            }
            if (c >= '0' && c <= '9') {
                int start = at - 1;
                while (text.charAt(at) >= '0' && text.charAt(at) <= '9') {
                    at++;
                }
                return Integer.parseInt(text.substring(start, at));
            }
            int[] s = stones.get(stone);
            switch (c) {
                case 'i':
                    return stone;
                case 'x':
                    return s[0];
                case 'y':
                    return s[1];
                case 's':
                    return s[2];
                case 'e':
                    return s[3];
                case 'n':
                    return close(stone);
                case 'r':
                    return draw;
                default:
                    return night % 100;
            }
        }
    }

    private int close(int i) {
        int n = 0;
        for (int j : stones.keySet()) {
            n += j != i && squares(stones.get(i), stones.get(j)) <= 4 ? 1 : 0;
        }
        return n;
    }

    private static int squares(int[] a, int[] b) {
        return (a[0] - b[0]) * (a[0] - b[0]) + (a[1] - b[1]) * (a[1] - b[1]);
    }

    private boolean holds(String rule, int stone, int draw) {
        Reckoner reckoner = new Reckoner(rule, stone, draw);
        try {
            reckoner.passSum();
            reckoner.at++;
            return reckoner.choice(true);
        } catch (Refused refused) {
            return false;
        }
    }

    private int amount(char letter, int stone, int draw) {
        for (String rule : rules) {
            if (rule.charAt(0) == letter && holds(rule, stone, draw)) {
                try {
                    int value = new Reckoner(rule, stone, draw).sum(true);
                    return value < 0 ? 0 : value > 9 ? 9 : value;
                } catch (Refused refused) {
                    return 0;
                }
            }
        }
        return 0;
    }

    private void goNight() {
        if (night == 9999) {
            return;
        }
        for (int i : stones.keySet()) {
            drawn = (int) ((25173L * drawn + 13849) % 65536);
            int r = drawn % 10;
            int[] s = stones.get(i);
            int x = Math.min(39, Math.max(0, s[0] + amount('u', i, r) - amount('d', i, r)));
            int y = Math.min(20, Math.max(1, s[1] + amount('o', i, r) - amount('b', i, r)));
            int there = find(x, y);
            if (there == -2) {
                s[0] = x;
                s[1] = y;
                moved++;
            } else if (there != i) {
                stayed++;
            }
            boolean sinks = false;
            for (String rule : rules) {
                sinks |= rule.charAt(0) == 'x' && holds(rule, i, r);
            }
            s[3] = sinks ? 1 : 0;
        }
        night++;
    }

    int nights(int n) {
        if (n < 1 || n > 60) {
            return -1;
        }
        moved = 0;
        stayed = 0;
        for (int k = 0; k < n; k++) {
            goNight();
        }
        return moved;
    }

    int tried(int n, int what) {
        boolean isX = stones.containsKey(what - 100);
        boolean isY = stones.containsKey(what - 200);
        if (n < 1 || n > 60 || what < 0 || what > 3 && !isX && !isY) {
            return -100000;
        }
        TreeMap<Integer, int[]> before = copy(stones);
        int nightBefore = night;
        int drawnBefore = drawn;
        nights(n);
        int under = 0;
        int upstream = 0;
        for (int i : stones.keySet()) {
            under += stones.get(i)[3];
            upstream += stones.get(i)[0] - before.get(i)[0];
        }
        int answer = what == 0 ? moved : what == 1 ? stayed : what == 2 ? under : what == 3 ? upstream
            : isX ? stones.get(what - 100)[0] : stones.get(what - 200)[1];
        stones = before;
        night = nightBefore;
        drawn = drawnBefore;
        return answer;
    }

    int notebook(int n) {
        String text = text(n, 200);
        if (text == null) {
            return -1;
        }
        TreeMap<Integer, int[]> page = new TreeMap<>();
        Set<Integer> places = new HashSet<>();
        String state = "x0";
        int x = 0;
        int y = 0;
        int startOfLine = 0;
        int startOfY = 0;
        for (int at = 0; at <= text.length(); at++) {
            char c = at < text.length() ? text.charAt(at) : '\0';
            int digit = c >= '0' && c <= '9' ? c - '0' : -1;
            switch (state) {
                case "x0":
                    if (digit < 0) {
                        return fault(1, at);
                    }
                    if (page.size() == 40) {
                        return fault(4, at);
                    }
                    startOfLine = at;
                    x = digit;
                    state = "x1";
                    break;
                case "x1":
                case "x2":
                    if (digit >= 0) {
                        if (state.equals("x2")) {
                            return fault(2, at);
                        }
                        x = 10 * x + digit;
                        state = "x2";
                        break;
                    }
                    if (x > 39) {
                        return fault(3, startOfLine);
                    }
                    if (c != ',') {
                        return fault(1, at);
                    }
                    state = "y0";
                    break;
                case "y0":
                    if (digit < 0) {
                        return fault(1, at);
                    }
                    startOfY = at;
                    y = digit;
                    state = "y1";
                    break;
                case "s":
                    if (digit < 0) {
                        return fault(1, at);
                    }
                    page.get(page.size() - 1)[2] = digit;
                    state = "behind s";
                    break;
                default:
                    if (state.startsWith("y")) {
                        if (digit >= 0) {
                            if (state.equals("y2")) {
                                return fault(2, at);
                            }
                            y = 10 * y + digit;
                            state = "y2";
                            break;
                        }
                        if (y < 1 || y > 20) {
                            return fault(3, startOfY);
                        }
                        if (!places.add(100 * x + y)) {
                            return fault(6, startOfLine);
                        }
                        page.put(page.size(), new int[] {x, y, 0, 0});
                    }
                    if (c == 's' && state.startsWith("y")) {
                        state = "s";
                    } else if (c == 'u' && !state.equals("behind u")) {
                        page.get(page.size() - 1)[3] = 1;
                        state = "behind u";
                    } else if (c == ';') {
                        state = "x0";
                    } else if (at < text.length()) {
                        return fault(1, at);
                    }
            }
        }
        stones = page;
        return page.size();
    }

    int stoneIs(int i, int what) {
        if (!stones.containsKey(i) || what < 0 || what > 4) {
            return -1;
        }
        return what == 4 ? close(i) : stones.get(i)[what];
    }

    private int find(int x, int y) {
        for (int i : stones.keySet()) {
            if (stones.get(i)[0] == x && stones.get(i)[1] == y) {
                return i;
            }
        }
        return -2;
    }

    int at(int x, int y) {
        return x < 0 || x > 39 || y < 1 || y > 20 ? -1 : find(x, y);
    }

    private boolean dry(int i) {
        return stones.containsKey(i) && stones.get(i)[3] == 0;
    }

    private boolean canStep(int a, int b, int stride) {
        if (a == b || a < 40 && !dry(a) || b < 40 && !dry(b)) {
            return false;
        }
        int ya = a == NEAR ? 0 : a == FAR ? 21 : stones.get(a)[1];
        int yb = b == NEAR ? 0 : b == FAR ? 21 : stones.get(b)[1];
        int dx = a < 40 && b < 40 ? stones.get(a)[0] - stones.get(b)[0] : 0;
        return dx * dx + (ya - yb) * (ya - yb) <= stride * stride;
    }

    /** The fewest steps from each node to each. */
    private int[][] table(int stride) {
        int[][] d = new int[42][42];
        for (int a = 0; a < 42; a++) {
            for (int b = 0; b < 42; b++) {
                d[a][b] = a == b ? 0 : canStep(a, b, stride) ? 1 : MUCH;
            }
        }
        for (int k = 0; k < 42; k++) {
            for (int a = 0; a < 42; a++) {
                for (int b = 0; b < 42; b++) {
                    d[a][b] = Math.min(d[a][b], d[a][k] + d[k][b]);
                }
            }
        }
        return d;
    }

    private boolean crosses(int stride) {
        return table(stride)[NEAR][FAR] < MUCH;
    }

    int cross(int p, int what) {
        if (!people.containsKey(p) || what != 100 && what != 101 && (what < 0 || what > 39)) {
            return -1;
        }
        int stride = people.get(p);
        int[][] d = table(stride);
        int fewest = d[NEAR][FAR];
        if (fewest >= MUCH) {
            return -2;
        }
        if (what == 100) {
            return fewest;
        }
        if (what == 101) {
            return (int) Math.min(1000000000L, countRows(d, NEAR, fewest, new long[42]));
        }
        List<Integer> best = null;
        if (what < fewest - 1) {
            best = leastRow(d, NEAR, fewest);
        }
        return best == null ? -4 : best.get(what);
    }

    private static long countRows(int[][] d, int from, int left, long[] known) {
        if (from == FAR) {
            return 1;
        }
        if (known[from] == 0) {
            for (int to = 0; to < 42; to++) {
                if (d[from][to] == 1 && d[to][FAR] == left - 1) {
                    known[from] += countRows(d, to, left - 1, known);
                }
            }
        }
        return known[from];
    }

    private static List<Integer> leastRow(int[][] d, int from, int left) {
        List<Integer> row = new ArrayList<>();
        for (int to = 0; to < 40; to++) {
            if (left > 1 && d[from][to] == 1 && d[to][FAR] == left - 1) {
                row.add(to);
                row.addAll(leastRow(d, to, left - 1));
                break;
            }
        }
        return row;
    }

    int driest(int p, int what) {
        if (!people.containsKey(p) || what < 0 || what > 1) {
            return -1;
        }
        int[][] best = new int[42][2];
        for (int[] row : best) {
            row[0] = MUCH;
        }
        best[NEAR][0] = 0;
        for (int round = 0; round < 42; round++) {
            for (int a = 0; a < 42; a++) {
                for (int b = 0; b < 42; b++) {
                    if (best[a][0] < MUCH && canStep(a, b, people.get(p))) {
                        int slip = best[a][0] + (b < 40 ? stones.get(b)[2] : 0);
                        int steps = best[a][1] + 1;
                        if (slip < best[b][0] || slip == best[b][0] && steps < best[b][1]) {
                            best[b][0] = slip;
                            best[b][1] = steps;
                        }
                    }
                }
            }
        }
        return best[FAR][0] >= MUCH ? -2 : best[FAR][what];
    }

    int leastStride() {
        for (int stride = 1; stride <= 30; stride++) {
            if (crosses(stride)) {
                return stride;
            }
        }
        return -2;
    }

    int howFar(int p) {
        if (!people.containsKey(p)) {
            return -1;
        }
        int[] d = table(people.get(p))[NEAR];
        int far = d[FAR] < MUCH ? 21 : 0;
        for (int i : stones.keySet()) {
            far = d[i] < MUCH ? Math.max(far, stones.get(i)[1]) : far;
        }
        return far;
    }

    int hold(int p) {
        if (!people.containsKey(p)) {
            return -1;
        }
        int stride = people.get(p);
        if (stride >= 21) {
            return -2;
        }
        List<Integer> dries = new ArrayList<>();
        for (int i : stones.keySet()) {
            if (dry(i)) {
                dries.add(i);
            }
        }
        return dries.size() <= 9 ? fewestUnder(dries, stride) : flow(stride);
    }

    private int fewestUnder(List<Integer> dries, int stride) {
        int fewest = MUCH;
        for (int set = 0; set < 1 << dries.size(); set++) {
            if (Integer.bitCount(set) < fewest) {
                for (int k = 0; k < dries.size(); k++) {
                    stones.get(dries.get(k))[3] = set >> k & 1;
                }
                if (!crosses(stride)) {
                    fewest = Integer.bitCount(set);
                }
            }
        }
        for (int i : dries) {
            stones.get(i)[3] = 0;
        }
        return fewest;
    }

    /** Ford and Fulkerson over a whole matrix: node 2 i is where one comes on stone i, 2 i + 1 where one leaves. */
    private int flow(int stride) {
        int[][] room = new int[84][84];
        for (int a = 0; a < 42; a++) {
            room[2 * a][2 * a + 1] = a >= 40 ? MUCH : dry(a) ? 1 : 0;
            for (int b = 0; b < 42; b++) {
                if (canStep(a, b, stride)) {
                    room[2 * a + 1][2 * b] = 1;
                }
            }
        }
        int ways = 0;
        while (push(room, 2 * NEAR, 2 * FAR + 1, new boolean[84])) {
            ways++;
        }
        return ways;
    }

    private static boolean push(int[][] room, int from, int goal, boolean[] seen) {
        if (from == goal) {
            return true;
        }
        seen[from] = true;
        for (int to = 0; to < room.length; to++) {
            if (!seen[to] && room[from][to] > 0 && push(room, to, goal, seen)) {
                room[from][to]--;
                room[to][from]++;
                return true;
            }
        }
        return false;
    }

    int oneMore(int p, int what) {
        if (!people.containsKey(p) || what < 0 || what > 1) {
            return -1;
        }
        int stride = people.get(p);
        int[][] d = table(stride);
        if (d[NEAR][FAR] < MUCH) {
            return -3;
        }
        for (int y = 1; y <= 20; y++) {
            for (int x = 0; x <= 39; x++) {
                boolean isNear = y <= stride;
                boolean isFar = 21 - y <= stride;
                for (int i : stones.keySet()) {
                    int[] s = stones.get(i);
                    if (s[3] == 0 && squares(s, new int[] {x, y}) <= stride * stride) {
                        isNear |= d[NEAR][i] < MUCH;
                        isFar |= d[FAR][i] < MUCH;
                    }
                }
                if (isNear && isFar && find(x, y) == -2) {
                    return what == 0 ? x : y;
                }
            }
        }
        return -2;
    }

    int islands(int stride, int what) {
        if (stride < 1 || stride > 30 || what != 100 && !stones.containsKey(what)) {
            return -1;
        }
        int[] names = new int[40];
        for (int i = 0; i < 40; i++) {
            names[i] = dry(i) ? i : -1;
        }
        for (int round = 0; round < 40; round++) {
            for (int a = 0; a < 40; a++) {
                for (int b = 0; b < 40; b++) {
                    if (canStep(a, b, stride)) {
                        names[a] = Math.min(names[a], names[b]);
                    }
                }
            }
        }
        int answer = 0;
        for (int i = 0; i < 40; i++) {
            answer += what == 100 ? names[i] == i ? 1 : 0 : names[what] >= 0 && names[i] == names[what] ? 1 : 0;
        }
        return answer;
    }

    int key(int p, int what) {
        if (!people.containsKey(p) || what < 0 || what > 1) {
            return -1;
        }
        int stride = people.get(p);
        if (!crosses(stride)) {
            return -3;
        }
        List<Integer> keys = new ArrayList<>();
        for (int i : stones.keySet()) {
            if (dry(i)) {
                stones.get(i)[3] = 1;
                if (!crosses(stride)) {
                    keys.add(i);
                }
                stones.get(i)[3] = 0;
            }
        }
        return what == 0 ? keys.size() : keys.isEmpty() ? -2 : keys.get(0);
    }

    int meet(int p, int q, int what) {
        if (!people.containsKey(p) || !people.containsKey(q) || what < 0 || what > 1) {
            return -1;
        }
        int[] near = table(people.get(p))[NEAR];
        int[] far = table(people.get(q))[FAR];
        int best = MUCH;
        int where = -2;
        for (int i : stones.keySet()) {
            if (Math.max(near[i], far[i]) < best) {
                best = Math.max(near[i], far[i]);
                where = i;
            }
        }
        return where == -2 ? -2 : what == 0 ? best : where;
    }

    int market() {
        int bits = 0;
        for (int p : people.keySet()) {
            bits += crosses(people.get(p)) ? 1 << p : 0;
        }
        return bits;
    }

    int firstNight(int p) {
        if (!people.containsKey(p)) {
            return -1;
        }
        TreeMap<Integer, int[]> before = copy(stones);
        int nightBefore = night;
        int drawnBefore = drawn;
        int answer = -2;
        for (int k = 0; k <= 60 && answer == -2; k++) {
            if (crosses(people.get(p))) {
                answer = k;
            }
            goNight();
        }
        stones = before;
        night = nightBefore;
        drawn = drawnBefore;
        return answer;
    }

    int walk(int p, int x, int n, int what) {
        if (!people.containsKey(p) || x < 0 || x > 39 || what < 0 || what > 3) {
            return -1;
        }
        String text = text(n, 60);
        if (text == null) {
            return -1;
        }
        List<int[]> steps = new ArrayList<>();
        int fault = readWalk(text, steps);
        if (fault < 0) {
            return fault;
        }
        int y = 0;
        int good = 0;
        for (int[] step : steps) {
            int toX = x + step[0];
            int toY = y + step[1];
            boolean isBank = (toY <= 0 || toY >= 21) && toX >= 0 && toX <= 39;
            boolean isStone = toY > 0 && toY < 21 && dry(find(toX, toY));
            int stride = people.get(p);
            if (step[0] * step[0] + step[1] * step[1] > stride * stride || !isBank && !isStone) {
                break;
            }
            good++;
            x = toX;
            y = toY <= 0 ? 0 : Math.min(toY, 21);
            if (y == 21) {
                break;
            }
        }
        return what == 0 ? good : what == 1 ? y : what == 2 ? x : y == 21 ? 1 : 0;
    }

    private static int readWalk(String text, List<int[]> steps) {
        Deque<int[]> open = new ArrayDeque<>();
        String state = "step";
        int[] step = null;
        int start = 0;
        int[] round = null;
        char letter = 0;
        String digits = "";
        for (int at = 0; at <= text.length(); at++) {
            char c = at < text.length() ? text.charAt(at) : '\0';
            boolean isDigit = c >= '0' && c <= '9';
            boolean isHop = c != 0 && "udob".indexOf(c) >= 0;
            if (state.equals("step")) {
                if (c == '(') {
                    if (open.size() == 2) {
                        return fault(5, at);
                    }
                    open.push(new int[] {at, steps.size()});
                } else if (isHop) {
                    start = at;
                    step = new int[2];
                    letter = c;
                    digits = "";
                    state = "hop";
                } else {
                    return fault(1, at);
                }
                continue;
            }
            if (state.equals("hop")) {
                if (isDigit) {
                    if (digits.length() == 2) {
                        return fault(2, at);
                    }
                    digits += c;
                    continue;
                }
                int far = digits.isEmpty() ? 1 : Integer.parseInt(digits);
                step["ud".indexOf(letter) >= 0 ? 0 : 1] += letter == 'u' || letter == 'o' ? far : -far;
                if (isHop) {
                    letter = c;
                    digits = "";
                    continue;
                }
                steps.add(step);
                if (steps.size() > 60) {
                    return fault(6, start);
                }
                state = "behind";
            }
            if (state.equals("times")) {
                if (c < '2' || c > '9') {
                    return fault(1, at);
                }
                List<int[]> once = new ArrayList<>(steps.subList(round[1], steps.size()));
                for (int k = 1; k < c - '0'; k++) {
                    steps.addAll(once);
                }
                if (steps.size() > 60) {
                    return fault(6, round[0]);
                }
                state = "behind";
                continue;
            }
            if (state.equals("round") && c == 'x') {
                state = "times";
                continue;
            }
            if (c == ',') {
                state = "step";
            } else if (c == ')' && !open.isEmpty()) {
                round = open.pop();
                state = "round";
            } else if (at < text.length() || !open.isEmpty()) {
                return fault(1, at);
            }
        }
        return 0;
    }

    int chalk(int n, int what) {
        if (n < 1 || n > 7 || what != 100 && (what < 0 || what >= n) || tape.size() < 2 * n) {
            return -1;
        }
        String text = text(2 * n, 14);
        if (stones.size() < n) {
            return -2;
        }
        for (int k = 0; k < n; k++) {
            if (text.charAt(2 * k) > 39 || text.charAt(2 * k + 1) > 20) {
                return -3;
            }
        }
        List<Integer> lowest = new ArrayList<>(stones.keySet()).subList(0, n);
        List<Integer> bestRow = new ArrayList<>();
        int best = place(text, lowest, new ArrayList<>(), 0, MUCH, bestRow);
        return what == 100 ? best : bestRow.get(what);
    }

    private int place(String text, List<Integer> lowest, List<Integer> row, int sum, int best, List<Integer> bestRow) {
        if (row.size() == lowest.size()) {
            if (sum < best) {
                bestRow.clear();
                bestRow.addAll(row);
            }
            return Math.min(sum, best);
        }
        int k = row.size();
        for (int i : lowest) {
            if (!row.contains(i)) {
                int[] s = stones.get(i);
                int way = Math.abs(s[0] - text.charAt(2 * k)) + Math.abs(s[1] - text.charAt(2 * k + 1));
                row.add(i);
                best = place(text, lowest, row, sum + way, best, bestRow);
                row.remove(k);
            }
        }
        return best;
    }

    int shape(int what) {
        switch (what) {
            case 0:
                return line();
            case 1:
                return yardApart();
            case 2:
                return pairs();
            case 3:
                return closest();
            default:
                return -1;
        }
    }

    private int line() {
        int most = Math.min(2, stones.size());
        for (int[] a : stones.values()) {
            Map<String, Integer> slopes = new TreeMap<>();
            for (int[] b : stones.values()) {
                if (a != b) {
                    int dx = b[0] - a[0];
                    int dy = b[1] - a[1];
                    int g = java.math.BigInteger.valueOf(dx).gcd(java.math.BigInteger.valueOf(dy)).intValue();
                    int sign = dx < 0 || dx == 0 && dy < 0 ? -1 : 1;
                    most = Math.max(most, 1 + slopes.merge(sign * dx / g + ":" + sign * dy / g, 1, Integer::sum));
                }
            }
        }
        return most;
    }

    private int yardApart() {
        int longest = 0;
        for (int x = 0; x < 40; x++) {
            int run = 0;
            for (int y = 1; y <= 20; y++) {
                run = find(x, y) >= 0 ? run + 1 : 0;
                longest = Math.max(longest, run);
            }
        }
        return longest;
    }

    private int nearest(int i) {
        List<int[]> others = new ArrayList<>();
        for (int j : stones.keySet()) {
            if (j != i) {
                others.add(new int[] {squares(stones.get(i), stones.get(j)), j});
            }
        }
        others.sort((a, b) -> a[0] != b[0] ? Integer.compare(a[0], b[0]) : Integer.compare(a[1], b[1]));
        return others.isEmpty() ? -1 : others.get(0)[1];
    }

    private int pairs() {
        int ends = 0;
        for (int i : stones.keySet()) {
            int j = nearest(i);
            ends += j >= 0 && nearest(j) == i ? 1 : 0;
        }
        return ends / 2;
    }

    private int closest() {
        List<Integer> all = new ArrayList<>();
        for (int i : stones.keySet()) {
            for (int j : stones.keySet()) {
                if (i < j) {
                    all.add(squares(stones.get(i), stones.get(j)));
                }
            }
        }
        return all.isEmpty() ? -2 : Collections.min(all);
    }

    int letters(int n, int what) {
        if (n < 1 || n > 8 || what < 0 || what > 1 || tape.size() < n) {
            return -1;
        }
        String text = text(n, 8);
        if (text.indexOf(0) >= 0) {
            return -2;
        }
        int best = MUCH;
        int bag = 0;
        for (int set = 0; set < 1 << n; set++) {
            int in = 0;
            int out = 0;
            for (int k = 0; k < n; k++) {
                if ((set & 1 << k) != 0) {
                    in += text.charAt(k);
                } else {
                    out += text.charAt(k);
                }
            }
            if (set % 2 == 1 && Math.abs(in - out) < best) {
                best = Math.abs(in - out);
                bag = set;
            }
        }
        return what == 0 ? best : bag;
    }

    int thrown(int n) {
        if (n < 1 || n > 6) {
            return -1;
        }
        List<int[]> hands = new ArrayList<>();
        for (int i : stones.keySet()) {
            if (dry(i) && hands.size() < n) {
                hands.add(stones.get(i));
            }
        }
        if (hands.size() < n) {
            return -2;
        }
        return throwOn(hands.get(0), hands.subList(1, n));
    }

    private static int throwOn(int[] from, List<int[]> left) {
        int best = left.isEmpty() ? 0 : MUCH;
        for (int[] to : left) {
            List<int[]> rest = new ArrayList<>(left);
            rest.remove(to);
            best = Math.min(best, squares(from, to) + throwOn(to, rest));
        }
        return best;
    }

    boolean seed(int x) {
        if (x < 0 || x > 65535) {
            return false;
        }
        drawn = x;
        return true;
    }

    int keep() {
        keptStones = copy(stones);
        keptNight = night;
        keptDrawn = drawn;
        return night;
    }

    boolean undo() {
        if (keptStones == null) {
            return false;
        }
        stones = copy(keptStones);
        night = keptNight;
        drawn = keptDrawn;
        return true;
    }

    int check(int n) {
        if (n < 0 || n > 40 || n > tape.size()) {
            return -2;
        }
        List<Integer> bytes = new ArrayList<>(tape.subList(0, n));
        tape.clear();
        for (int i = 0; i < n; i++) {
            int due = stones.containsKey(i) ? stones.get(i)[0] : 255;
            if (bytes.get(i) != due) {
                return i;
            }
        }
        return -1;
    }

    int count(int what) {
        int bits = 0;
        for (int p : people.keySet()) {
            bits |= 1 << p;
        }
        int under = 0;
        for (int[] s : stones.values()) {
            under += s[3];
        }
        int[] first = {night, stones.size(), under, bits, rules.size(), tape.size(), drawn};
        if (what >= 0 && what < first.length) {
            return first[what];
        }
        return people.getOrDefault(what - 10, -1);
    }

    /** A stone's number that is told, if there is one. */
    int someTold(int k) {
        List<Integer> all = new ArrayList<>(stones.keySet());
        return all.isEmpty() ? k : all.get(Math.floorMod(k, all.size()));
    }

    int[] placeOf(int i) {
        return stones.get(i);
    }

    int tapeSize() {
        return tape.size();
    }
}
