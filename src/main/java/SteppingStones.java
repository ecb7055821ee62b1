import java.util.Arrays;

/**
 * Stepping stones that move at night, and the people who cross on them.
 * The promises are told in DOC.md; all rows are made once, with the object, and used again by every call.
 */
public final class SteppingStones {
    public static final int NONE = -1;

    private static final int STONES = 40;
    private static final int PEOPLE = 8;
    private static final int TOP_X = 39;
    private static final int TOP_Y = 20;
    private static final int FAR_Y = 21;
    private static final int MOST_STRIDE = 30;
    private static final int MOST_NIGHTS = 60;
    private static final int LAST_NIGHT = 9999;

    /** The banks are nodes behind the stones: nobody needs steps along a bank, so one node is a whole bank. */
    private static final int NEAR = 40;
    private static final int FAR = 41;
    private static final int NODES = 42;

    private static final int TAPE_BYTES = 260;
    private static final int LAW_BYTES = 240;
    private static final int NOTEBOOK_BYTES = 200;
    private static final int WALK_BYTES = 60;
    private static final int RULES = 16;
    private static final int WALK_STEPS = 60;
    private static final int CHALK_MOST = 7;
    private static final int THROWN_MOST = 6;

    private static final int CANNOT = -2;
    private static final int OTHERWISE = -3;
    private static final int NO_PLACE = -4;
    private static final int NOT_TRIED = -100000;
    private static final int STEPS_ASKED = 100;
    private static final int ROWS_ASKED = 101;
    private static final int MOST_ROWS = 1000000000;
    private static final int NOT_TOLD = 255;

    /** What stands behind the last byte of a text: no byte is below 0. */
    private static final int END = -1;

    private final Ford ford = new Ford();
    private final Ford kept = new Ford();
    private final Ford spare = new Ford();
    private final Tape tape = new Tape();
    private final River river = new River();
    private final Ways ways = new Ways();
    private final Dam dam = new Dam();
    private final Plan plan = new Plan();
    private final Chalk marks = new Chalk();
    private final int[] strides = new int[PEOPLE];
    private Law ruling = new Law();
    private Law draft = new Law();
    private boolean isKept = false;

    public SteppingStones() {
    }

    public boolean stone(int i, int x, int y, int slippery) {
        if (!isStone(i) || !isPlace(x, y) || slippery < 0 || slippery > 9) {
            return false;
        }
        int there = ford.stoneAt(x, y);
        if (there != NONE && there != i) {
            return false;
        }
        ford.lay(i, x, y, slippery, false);
        return true;
    }

    public boolean take(int i) {
        if (!ford.isTold(i)) {
            return false;
        }
        ford.told[i] = false;
        return true;
    }

    public boolean under(int i, boolean is) {
        if (!ford.isTold(i)) {
            return false;
        }
        ford.sunk[i] = is;
        return true;
    }

    public boolean person(int p, int stride) {
        if (p < 0 || p >= PEOPLE || !isStride(stride)) {
            return false;
        }
        strides[p] = stride;
        return true;
    }

    public int feed(int a, int b, int c, int d, int e) {
        if (tape.size + 20 > TAPE_BYTES) {
            return NONE;
        }
        tape.append(a);
        tape.append(b);
        tape.append(c);
        tape.append(d);
        tape.append(e);
        return tape.size;
    }

    public int law(int n) {
        if (!tape.holds(n, 1, LAW_BYTES)) {
            return NONE;
        }
        tape.open(n);
        int answer = draft.compile(tape);
        if (answer > 0) {
            Law before = ruling;
            ruling = draft;
            draft = before;
        }
        return answer;
    }

    public int notebook(int n) {
        if (!tape.holds(n, 1, NOTEBOOK_BYTES)) {
            return NONE;
        }
        tape.open(n);
        int answer = readNotebook(tape, spare);
        if (answer > 0) {
            ford.copyStones(spare);
        }
        return answer;
    }

    public int nights(int n) {
        if (!isNights(n)) {
            return NONE;
        }
        river.pass(ford, ruling, n);
        return river.moved;
    }

    public int tried(int n, int what) {
        boolean isX = what >= 100 && ford.isTold(what - 100);
        boolean isY = what >= 200 && ford.isTold(what - 200);
        if (!isNights(n) || !(what >= 0 && what <= 3 || isX || isY)) {
            return NOT_TRIED;
        }
        spare.copyAll(ford);
        river.pass(spare, ruling, n);
        if (isX) {
            return spare.x[what - 100];
        }
        if (isY) {
            return spare.y[what - 200];
        }
        switch (what) {
            case 0:
                return river.moved;
            case 1:
                return river.stayed;
            case 2:
                return spare.countSunk();
            default:
                return spare.sumOfX() - ford.sumOfX();
        }
    }

    public int stoneIs(int i, int what) {
        if (!ford.isTold(i)) {
            return NONE;
        }
        switch (what) {
            case 0:
                return ford.x[i];
            case 1:
                return ford.y[i];
            case 2:
                return ford.slippery[i];
            case 3:
                return ford.sunk[i] ? 1 : 0;
            case 4:
                return ford.countClose(i);
            default:
                return NONE;
        }
    }

    public int at(int x, int y) {
        if (!isPlace(x, y)) {
            return NONE;
        }
        int there = ford.stoneAt(x, y);
        return there == NONE ? CANNOT : there;
    }

    public int cross(int p, int what) {
        int stride = strideOf(p);
        if (stride == 0 || !(isStone(what) || what == STEPS_ASKED || what == ROWS_ASKED)) {
            return NONE;
        }
        return ways.crossing(ford, stride, what);
    }

    public int driest(int p, int what) {
        int stride = strideOf(p);
        if (stride == 0 || !isEither(what)) {
            return NONE;
        }
        return ways.driestWay(ford, stride, what);
    }

    public int leastStride() {
        for (int stride = 1; stride <= MOST_STRIDE; stride++) {
            if (ways.canCross(ford, stride)) {
                return stride;
            }
        }
        return CANNOT;
    }

    public int howFar(int p) {
        int stride = strideOf(p);
        return stride == 0 ? NONE : ways.farthest(ford, stride);
    }

    public int hold(int p) {
        int stride = strideOf(p);
        if (stride == 0) {
            return NONE;
        }
        return stride >= FAR_Y ? CANNOT : dam.fewest(ford, stride);
    }

    public int oneMore(int p, int what) {
        int stride = strideOf(p);
        if (stride == 0 || !isEither(what)) {
            return NONE;
        }
        return ways.helpfulPlace(ford, stride, what);
    }

    public int islands(int stride, int what) {
        if (!isStride(stride)) {
            return NONE;
        }
        if (what == STEPS_ASKED) {
            return ways.countIslands(ford, stride);
        }
        return ford.isTold(what) ? ways.islandSize(ford, stride, what) : NONE;
    }

    public int key(int p, int what) {
        int stride = strideOf(p);
        if (stride == 0 || !isEither(what)) {
            return NONE;
        }
        if (!ways.canCross(ford, stride)) {
            return OTHERWISE;
        }
        spare.copyAll(ford);
        int keys = 0;
        int lowest = CANNOT;
        for (int i = STONES - 1; i >= 0; i--) {
            if (ways.needs(spare, stride, i)) {
                keys++;
                lowest = i;
            }
        }
        return what == 0 ? keys : lowest;
    }

    public int meet(int p, int q, int what) {
        int strideNear = strideOf(p);
        int strideFar = strideOf(q);
        if (strideNear == 0 || strideFar == 0 || !isEither(what)) {
            return NONE;
        }
        return ways.meeting(ford, strideNear, strideFar, what);
    }

    public int market() {
        int bits = 0;
        for (int p = 0; p < PEOPLE; p++) {
            if (strides[p] != 0 && ways.canCross(ford, strides[p])) {
                bits |= 1 << p;
            }
        }
        return bits;
    }

    public int firstNight(int p) {
        int stride = strideOf(p);
        if (stride == 0) {
            return NONE;
        }
        spare.copyAll(ford);
        for (int night = 0; night <= MOST_NIGHTS; night++) {
            if (ways.canCross(spare, stride)) {
                return night;
            }
            river.pass(spare, ruling, 1);
        }
        return CANNOT;
    }

    public int walk(int p, int x, int n, int what) {
        int stride = strideOf(p);
        if (stride == 0 || x < 0 || x > TOP_X || what < 0 || what > 3 || !tape.holds(n, 1, WALK_BYTES)) {
            return NONE;
        }
        tape.open(n);
        if (!plan.read(tape)) {
            return tape.fault;
        }
        plan.go(ford, stride, x);
        switch (what) {
            case 0:
                return plan.good;
            case 1:
                return plan.y;
            case 2:
                return plan.x;
            default:
                return plan.y == FAR_Y ? 1 : 0;
        }
    }

    public int chalk(int n, int what) {
        if (n < 1 || n > CHALK_MOST || !tape.holds(2 * n, 2, 2 * CHALK_MOST)) {
            return NONE;
        }
        if (what != 100 && (what < 0 || what >= n)) {
            return NONE;
        }
        tape.open(2 * n);
        if (ford.countTold() < n) {
            return CANNOT;
        }
        if (!marks.read(tape, n)) {
            return OTHERWISE;
        }
        marks.match(ford, n);
        return what == 100 ? marks.wayInAll() : marks.stoneOf(n, what);
    }

    public int shape(int what) {
        switch (what) {
            case 0:
                return Shapes.line(ford);
            case 1:
                return Shapes.yardApart(ford);
            case 2:
                return Shapes.pairs(ford);
            case 3:
                return Shapes.closest(ford);
            default:
                return NONE;
        }
    }

    public int letters(int n, int what) {
        if (!isEither(what) || !tape.holds(n, 1, 8)) {
            return NONE;
        }
        tape.open(n);
        for (int i = 0; i < n; i++) {
            if (tape.byteAt(i) == 0) {
                return CANNOT;
            }
        }
        int bag = evenBag(n);
        return what == 0 ? unlike(bag, n) : bag;
    }

    public int thrown(int n) {
        if (n < 1 || n > THROWN_MOST) {
            return NONE;
        }
        int first = ford.nextDry(0);
        int last = first;
        for (int i = 1; i < n && last != NONE; i++) {
            last = ford.nextDry(last + 1);
        }
        if (last == NONE) {
            return CANNOT;
        }
        return fewestThrows(ford, first, 1L << first, last, n - 1);
    }

    public boolean seed(int x) {
        if (x < 0 || x > 65535) {
            return false;
        }
        ford.drawn = x;
        return true;
    }

    public int keep() {
        kept.copyAll(ford);
        isKept = true;
        return ford.night;
    }

    public boolean undo() {
        if (isKept) {
            ford.copyAll(kept);
        }
        return isKept;
    }

    public int check(int n) {
        if (!tape.holds(n, 0, STONES)) {
            return CANNOT;
        }
        tape.open(n);
        for (int i = 0; i < n; i++) {
            int due = ford.isTold(i) ? ford.x[i] : NOT_TOLD;
            if (tape.byteAt(i) != due) {
                return i;
            }
        }
        return NONE;
    }

    public int count(int what) {
        switch (what) {
            case 0:
                return ford.night;
            case 1:
                return ford.countTold();
            case 2:
                return ford.countSunk();
            case 3:
                return toldPeople();
            case 4:
                return ruling.rules;
            case 5:
                return tape.size;
            case 6:
                return ford.drawn;
            default:
                return what >= 10 && strideOf(what - 10) != 0 ? strideOf(what - 10) : NONE;
        }
    }

    private static boolean isStone(int i) {
        return i >= 0 && i < STONES;
    }

    private static boolean isPlace(int x, int y) {
        return x >= 0 && x <= TOP_X && y >= 1 && y <= TOP_Y;
    }

    private static boolean isStride(int stride) {
        return stride >= 1 && stride <= MOST_STRIDE;
    }

    private static boolean isNights(int n) {
        return n >= 1 && n <= MOST_NIGHTS;
    }

    private static boolean isEither(int what) {
        return what == 0 || what == 1;
    }

    /** 0 stands for nobody: a told stride is never 0. */
    private int strideOf(int p) {
        return p >= 0 && p < PEOPLE ? strides[p] : 0;
    }

    private int toldPeople() {
        int bits = 0;
        for (int p = 0; p < PEOPLE; p++) {
            if (strides[p] != 0) {
                bits |= 1 << p;
            }
        }
        return bits;
    }

    /** Reads onto a spare page, so that a fault leaves the ford as it is. */
    private static int readNotebook(Tape text, Ford page) {
        page.clearStones();
        for (int line = 0; line < STONES; line++) {
            if (!readLine(text, page, line)) {
                return text.fault;
            }
            if (text.here() == END) {
                return line + 1;
            }
            if (!text.skip(';')) {
                return text.fault;
            }
        }
        text.refuse(Tape.isDigit(text.here()) ? 4 : 1, text.place);
        return text.fault;
    }

    private static boolean readLine(Tape text, Ford page, int line) {
        int start = text.place;
        int x = text.number(2);
        if (x == NONE) {
            return false;
        }
        if (x > TOP_X) {
            return text.refuse(3, start);
        }
        if (!text.skip(',')) {
            return false;
        }
        int startOfY = text.place;
        int y = text.number(2);
        if (y == NONE) {
            return false;
        }
        if (y < 1 || y > TOP_Y) {
            return text.refuse(3, startOfY);
        }
        if (page.stoneAt(x, y) != NONE) {
            return text.refuse(6, start);
        }
        int slippery = 0;
        if (text.here() == 's') {
            text.place++;
            if (!Tape.isDigit(text.here())) {
                return text.refuse(1, text.place);
            }
            slippery = text.here() - '0';
            text.place++;
        }
        boolean isUnder = text.here() == 'u';
        if (isUnder) {
            text.place++;
        }
        page.lay(line, x, y, slippery, isUnder);
        return true;
    }

    /** Bags are asked by growing bits, so the first of like ones is the least; bit 0 is always in. */
    private int evenBag(int n) {
        int best = 1;
        for (int bag = 1; bag < 1 << n; bag += 2) {
            if (unlike(bag, n) < unlike(best, n)) {
                best = bag;
            }
        }
        return best;
    }

    private int unlike(int bag, int n) {
        int more = 0;
        for (int i = 0; i < n; i++) {
            more += (bag >> i & 1) != 0 ? tape.byteAt(i) : -tape.byteAt(i);
        }
        return Math.abs(more);
    }

    /** Left is how many hands the child still goes to: at most five, which ends the recursion. */
    private static int fewestThrows(Ford ford, int holder, long had, int last, int left) {
        if (left <= 0) {
            return 0;
        }
        int fewest = Integer.MAX_VALUE;
        for (int i = 0; i <= last && i < STONES; i++) {
            if (ford.isDry(i) && (had >> i & 1) == 0) {
                int sum = ford.squares(holder, i) + fewestThrows(ford, i, had | 1L << i, last, left - 1);
                fewest = Math.min(fewest, sum);
            }
        }
        return fewest;
    }

    /** The stones as they lie, the night, and the number drawn last. */
    private static final class Ford {
        final int[] x = new int[STONES];
        final int[] y = new int[STONES];
        final int[] slippery = new int[STONES];
        final boolean[] told = new boolean[STONES];
        final boolean[] sunk = new boolean[STONES];
        int night = 0;
        int drawn = 1;

        void copyStones(Ford other) {
            for (int i = 0; i < STONES; i++) {
                x[i] = other.x[i];
                y[i] = other.y[i];
                slippery[i] = other.slippery[i];
                told[i] = other.told[i];
                sunk[i] = other.sunk[i];
            }
        }

        void copyAll(Ford other) {
            copyStones(other);
            night = other.night;
            drawn = other.drawn;
        }

        void clearStones() {
            for (int i = 0; i < STONES; i++) {
                told[i] = false;
            }
        }

        void lay(int i, int atX, int atY, int howSlippery, boolean isUnder) {
            if (i < 0 || i >= STONES) {
                return;
            }
            x[i] = atX;
            y[i] = atY;
            slippery[i] = howSlippery;
            sunk[i] = isUnder;
            told[i] = true;
        }

        boolean isTold(int i) {
            return i >= 0 && i < STONES && told[i];
        }

        boolean isDry(int i) {
            return i >= 0 && i < STONES && told[i] && !sunk[i];
        }

        int stoneAt(int atX, int atY) {
            for (int i = 0; i < STONES; i++) {
                if (told[i] && x[i] == atX && y[i] == atY) {
                    return i;
                }
            }
            return NONE;
        }

        int nextDry(int from) {
            for (int i = Math.max(from, 0); i < STONES; i++) {
                if (isDry(i)) {
                    return i;
                }
            }
            return NONE;
        }

        int nextTold(int from) {
            for (int i = Math.max(from, 0); i < STONES; i++) {
                if (told[i]) {
                    return i;
                }
            }
            return NONE;
        }

        int countTold() {
            int all = 0;
            for (int i = 0; i < STONES; i++) {
                all += told[i] ? 1 : 0;
            }
            return all;
        }

        int countSunk() {
            int all = 0;
            for (int i = 0; i < STONES; i++) {
                all += told[i] && sunk[i] ? 1 : 0;
            }
            return all;
        }

        int sumOfX() {
            int sum = 0;
            for (int i = 0; i < STONES; i++) {
                sum += told[i] ? x[i] : 0;
            }
            return sum;
        }

        int countClose(int i) {
            int close = 0;
            for (int other = 0; other < STONES; other++) {
                if (other != i && told[other] && squares(i, other) <= 4) {
                    close++;
                }
            }
            return close;
        }

        int squares(int i, int j) {
            if (!isTold(i) || !isTold(j)) {
                return 0;
            }
            int along = x[i] - x[j];
            int over = y[i] - y[j];
            return along * along + over * over;
        }

        int draw() {
            drawn = (25173 * drawn + 13849) & 65535;
            return drawn % 10;
        }

        boolean canStand(int node) {
            return node == NEAR || node == FAR || isDry(node);
        }

        int heightOf(int node) {
            if (node == FAR) {
                return FAR_Y;
            }
            return node >= 0 && node < STONES ? y[node] : 0;
        }

        /** Whether one step goes from one node to the other, either way. */
        boolean isStep(int from, int to, int stride) {
            if (from == to || !canStand(from)) {
                return false;
            }
            if (to >= 0 && to < STONES) {
                return isDry(to) && isStepFrom(from, x[to], y[to], stride);
            }
            return (to == NEAR || to == FAR) && Math.abs(heightOf(from) - heightOf(to)) <= stride;
        }

        /** Whether one step goes from the node to a stone that lies, or would lie, at this place. */
        boolean isStepFrom(int node, int placeX, int placeY, int stride) {
            // A bank is stepped to and from straight over, so there X does not matter.
            int along = node >= 0 && node < STONES ? x[node] - placeX : 0;
            int over = heightOf(node) - placeY;
            return along * along + over * over <= stride * stride;
        }
    }

    /** The bytes that were fed, and the reading of a text made of the first of them. */
    private static final class Tape {
        final int[] bytes = new int[TAPE_BYTES];
        int size = 0;
        int end = 0;
        int place = 0;
        int fault = 0;

        void append(int four) {
            for (int shift = 24; shift >= 0; shift -= 8) {
                if (size >= 0 && size < TAPE_BYTES) {
                    bytes[size] = four >> shift & 255;
                    size++;
                }
            }
        }

        boolean holds(int n, int least, int most) {
            return n >= least && n <= most && n <= size;
        }

        /** The tape is empty for the next feed, while its first n bytes are read as a text. */
        void open(int n) {
            end = n;
            place = 0;
            fault = 0;
            size = 0;
        }

        int byteAt(int i) {
            return i >= 0 && i < end && i < TAPE_BYTES ? bytes[i] : END;
        }

        int here() {
            return place >= 0 && place < end && place < TAPE_BYTES ? bytes[place] : END;
        }

        boolean refuse(int number, int where) {
            fault = -1000 * number - where;
            return false;
        }

        boolean skip(int due) {
            if (here() != due) {
                return refuse(1, place);
            }
            place++;
            return true;
        }

        static boolean isDigit(int sign) {
            return sign >= '0' && sign <= '9';
        }

        /** NONE: a fault is told. */
        int number(int mostDigits) {
            int value = 0;
            int digits = 0;
            while (digits < mostDigits && isDigit(here())) {
                value = 10 * value + here() - '0';
                place++;
                digits++;
            }
            if (digits == 0) {
                refuse(1, place);
                return NONE;
            }
            if (isDigit(here())) {
                refuse(2, place);
                return NONE;
            }
            return value;
        }
    }

    /**
     * A law as a row of small orders for a stack, so that a night needs no text and no recursion.
     * No byte of the text makes more than one order.
     */
    private static final class Law {
        static final int OPEN_MOST = 6;
        static final int STACK = 32;
        static final int NUMBER = '0';
        static final int LETTER = 'a';

        final int[] orders = new int[LAW_BYTES];
        final int[] operands = new int[LAW_BYTES];
        final int[] stack = new int[STACK];
        final int[] letterOf = new int[RULES];
        final int[] amountFrom = new int[RULES];
        final int[] testFrom = new int[RULES];
        final int[] until = new int[RULES];
        int size = 0;
        int rules = 0;
        boolean asksClose = false;

        /** How many rules there are, or the fault. */
        int compile(Tape text) {
            size = 0;
            rules = 0;
            asksClose = false;
            for (int rule = 0; rule <= RULES; rule++) {
                int letter = text.here();
                if (!isRuleLetter(letter)) {
                    text.refuse(1, text.place);
                    return text.fault;
                }
                if (rule == RULES) {
                    text.refuse(4, text.place);
                    return text.fault;
                }
                text.place++;
                letterOf[rule] = letter;
                amountFrom[rule] = size;
                if (letter != 'x' && !compileSum(text, 0)) {
                    return text.fault;
                }
                testFrom[rule] = size;
                if (!text.skip('(') || !compileChoice(text, 1) || !text.skip(')')) {
                    return text.fault;
                }
                until[rule] = size;
                rules = rule + 1;
                if (text.here() == END) {
                    return rules;
                }
                if (!text.skip(';')) {
                    return text.fault;
                }
            }
            return text.fault;
        }

        static boolean isRuleLetter(int letter) {
            return letter == 'u' || letter == 'd' || letter == 'o' || letter == 'b' || letter == 'x';
        }

        /** A C: an & or | becomes a jump over what does not matter any more. */
        private boolean compileChoice(Tape text, int open) {
            int andJump = NONE;
            int orJump = NONE;
            for (int tests = 0; tests < LAW_BYTES; tests++) {
                if (!compileTest(text, open)) {
                    return false;
                }
                landHere(andJump);
                andJump = NONE;
                int sign = text.here();
                if (sign == '&') {
                    andJump = size;
                } else {
                    landHere(orJump);
                    orJump = size;
                    if (sign != '|') {
                        return true;
                    }
                }
                order(sign, 0);
                text.place++;
            }
            return text.refuse(1, text.place);
        }

        private boolean compileTest(Tape text, int open) {
            int sign = text.here();
            if (sign == '!' || sign == '(') {
                if (open >= OPEN_MOST) {
                    return text.refuse(5, text.place);
                }
                text.place++;
                if (sign == '(') {
                    return compileChoice(text, open + 1) && text.skip(')');
                }
                if (!compileTest(text, open + 1)) {
                    return false;
                }
                order('!', 0);
                return true;
            }
            if (!compileSum(text, open)) {
                return false;
            }
            int comparison = text.here();
            if (comparison != '<' && comparison != '>' && comparison != '=') {
                return text.refuse(1, text.place);
            }
            text.place++;
            if (!compileSum(text, open)) {
                return false;
            }
            order(comparison, 0);
            return true;
        }

        /** An E: a sign of a term is ordered behind its second factor, one of the sum behind its second term. */
        private boolean compileSum(Tape text, int open) {
            int sumSign = 0;
            int termSign = 0;
            for (int factors = 0; factors < LAW_BYTES; factors++) {
                if (!compileFactor(text, open)) {
                    return false;
                }
                if (termSign != 0) {
                    order(termSign, 0);
                }
                int sign = text.here();
                termSign = sign == '*' || sign == '/' || sign == '%' ? sign : 0;
                if (termSign == 0) {
                    if (sumSign != 0) {
                        order(sumSign, 0);
                    }
                    if (sign != '+' && sign != '-') {
                        return true;
                    }
                    sumSign = sign;
                }
                text.place++;
            }
            return text.refuse(1, text.place);
        }

        private boolean compileFactor(Tape text, int open) {
            int sign = text.here();
            if (sign == '[') {
                if (open >= OPEN_MOST) {
                    return text.refuse(5, text.place);
                }
                text.place++;
                return compileSum(text, open + 1) && text.skip(']');
            }
            if (Tape.isDigit(sign)) {
                int value = text.number(5);
                order(NUMBER, value);
                return value != NONE;
            }
            int which = River.indexOf(sign);
            if (which == NONE) {
                return text.refuse(1, text.place);
            }
            asksClose |= which == River.CLOSE;
            text.place++;
            order(LETTER, which);
            return true;
        }

        void order(int what, int operand) {
            if (size >= 0 && size < LAW_BYTES) {
                orders[size] = what;
                operands[size] = operand;
                size++;
            }
        }

        void landHere(int jump) {
            if (jump >= 0 && jump < size && jump < LAW_BYTES) {
                operands[jump] = size;
            }
        }

        /** Of the first rule of this letter that holds: its amount, within 0 to 9. */
        int amountOf(int letter, int[] values) {
            for (int rule = 0; rule < rules && rule < RULES; rule++) {
                if (letterOf[rule] == letter && doesHold(rule, values)) {
                    int amount = reckon(amountFrom[rule], testFrom[rule], values);
                    return Math.max(0, Math.min(9, amount));
                }
            }
            return 0;
        }

        boolean doesSink(int[] values) {
            for (int rule = 0; rule < rules && rule < RULES; rule++) {
                if (letterOf[rule] == 'x' && doesHold(rule, values)) {
                    return true;
                }
            }
            return false;
        }

        boolean doesHold(int rule, int[] values) {
            return rule >= 0 && rule < RULES && reckon(testFrom[rule], until[rule], values) != 0;
        }

        /** What is left on the stack; 0 if it is refused, which is right for an E and for a C. */
        int reckon(int from, int to, int[] values) {
            int top = NONE;
            int next = from;
            for (int done = 0; done < LAW_BYTES && next >= 0 && next < to && next < size && next < LAW_BYTES; done++) {
                int what = orders[next];
                int operand = operands[next];
                next++;
                if (what == NUMBER || what == LETTER) {
                    if (top + 1 >= STACK || what == LETTER && (operand < 0 || operand >= values.length)) {
                        return 0;
                    }
                    top++;
                    stack[top] = what == NUMBER ? operand : values[operand];
                } else if (top < 0) {
                    return 0;
                } else if (what == '!') {
                    stack[top] = 1 - stack[top];
                } else if (what == '&' || what == '|') {
                    // The value that settles the matter stays for whoever asks next.
                    if ((stack[top] == 0) == (what == '&')) {
                        next = operand;
                    } else {
                        top--;
                    }
                } else if (top < 1 || (what == '/' || what == '%') && stack[top] == 0) {
                    return 0;
                } else {
                    top--;
                    stack[top] = combine(what, stack[top], stack[top + 1]);
                }
            }
            return top < 0 ? 0 : stack[top];
        }

        static int combine(int sign, int left, int right) {
            switch (sign) {
                case '+':
                    return left + right;
                case '-':
                    return left - right;
                case '*':
                    return left * right;
                case '/':
                    return right == 0 ? 0 : left / right;
                case '%':
                    return right == 0 ? 0 : left % right;
                case '<':
                    return left < right ? 1 : 0;
                case '>':
                    return left > right ? 1 : 0;
                default:
                    return left == right ? 1 : 0;
            }
        }
    }

    /** Lets nights go by over a ford. */
    private static final class River {
        static final int LETTERS = 8;
        static final int CLOSE = 5;
        static final int DRAW = 6;

        final int[] values = new int[LETTERS];
        int moved = 0;
        int stayed = 0;

        /** Where the value of a law's letter stands in the row of values. */
        static int indexOf(int letter) {
            switch (letter) {
                case 'i':
                    return 0;
                case 'x':
                    return 1;
                case 'y':
                    return 2;
                case 's':
                    return 3;
                case 'e':
                    return 4;
                case 'n':
                    return CLOSE;
                case 'r':
                    return DRAW;
                case 'g':
                    return 7;
                default:
                    return NONE;
            }
        }

        void pass(Ford ford, Law law, int nights) {
            moved = 0;
            stayed = 0;
            for (int gone = 0; gone < nights && ford.night < LAST_NIGHT; gone++) {
                for (int i = 0; i < STONES; i++) {
                    if (ford.told[i]) {
                        turn(ford, law, i);
                    }
                }
                ford.night++;
            }
        }

        void turn(Ford ford, Law law, int i) {
            if (!ford.isTold(i)) {
                return;
            }
            values[DRAW] = ford.draw();
            look(ford, law, i);
            int up = law.amountOf('u', values) - law.amountOf('d', values);
            int over = law.amountOf('o', values) - law.amountOf('b', values);
            shift(ford, i, up, over);
            // An x is asked of the stone where it lies now; its own e has not changed yet.
            look(ford, law, i);
            ford.sunk[i] = law.doesSink(values);
        }

        void look(Ford ford, Law law, int i) {
            if (!ford.isTold(i)) {
                return;
            }
            values[0] = i;
            values[1] = ford.x[i];
            values[2] = ford.y[i];
            values[3] = ford.slippery[i];
            values[4] = ford.sunk[i] ? 1 : 0;
            // To count the stones around is dear, so it is done for laws that ask for it alone.
            values[CLOSE] = law.asksClose ? ford.countClose(i) : 0;
            values[7] = ford.night % 100;
        }

        void shift(Ford ford, int i, int up, int over) {
            if (!ford.isTold(i)) {
                return;
            }
            int x = Math.max(0, Math.min(TOP_X, ford.x[i] + up));
            int y = Math.max(1, Math.min(TOP_Y, ford.y[i] + over));
            if (x == ford.x[i] && y == ford.y[i]) {
                return;
            }
            if (ford.stoneAt(x, y) != NONE) {
                stayed++;
                return;
            }
            ford.x[i] = x;
            ford.y[i] = y;
            moved++;
        }
    }

    /** Steps over stones and banks, counted from a bank. */
    private static final class Ways {
        /** More than the steps of any way, so that slippery comes first and steps second. */
        static final int SLIP = 100;

        final int[] fromNear = new int[NODES];
        final int[] fromFar = new int[NODES];
        final int[] queue = new int[NODES];
        final int[] rows = new int[NODES];
        final int[] costs = new int[NODES];
        final boolean[] settled = new boolean[NODES];

        /** Fills in the fewest steps to each node below the bound (NONE: no way); how many were come to. */
        int spread(Ford ford, int stride, int start, int[] steps, int bound) {
            Arrays.fill(steps, NONE);
            return spreadOn(ford, stride, start, steps, bound);
        }

        /** The same over steps that are there already: nodes that have been come to are passed by. */
        int spreadOn(Ford ford, int stride, int start, int[] steps, int bound) {
            if (start < 0 || start >= NODES || steps.length < NODES) {
                return 0;
            }
            steps[start] = 0;
            queue[0] = start;
            int tail = 1;
            for (int head = 0; head < tail && head < NODES; head++) {
                int from = queue[head];
                int more = from >= 0 && from < NODES ? steps[from] + 1 : 0;
                for (int to = 0; to < bound && to < NODES; to++) {
                    if (steps[to] == NONE && tail < NODES && ford.isStep(from, to, stride)) {
                        steps[to] = more;
                        queue[tail] = to;
                        tail++;
                    }
                }
            }
            return tail;
        }

        boolean canCross(Ford ford, int stride) {
            spread(ford, stride, NEAR, fromNear, NODES);
            return fromNear[FAR] != NONE;
        }

        int crossing(Ford ford, int stride, int what) {
            int met = spread(ford, stride, NEAR, fromNear, NODES);
            int fewest = fromNear[FAR];
            if (fewest == NONE) {
                return CANNOT;
            }
            if (what == STEPS_ASKED) {
                return fewest;
            }
            if (what == ROWS_ASKED) {
                return countRows(ford, stride, met);
            }
            return what >= fewest - 1 ? NO_PLACE : stoneOfLeastRow(ford, stride, fewest, what);
        }

        /** The queue still holds the nodes by growing steps, so each one's rows are whole before they go on. */
        int countRows(Ford ford, int stride, int met) {
            Arrays.fill(rows, 0);
            rows[NEAR] = 1;
            for (int head = 0; head < met && head < NODES; head++) {
                leadOn(ford, stride, queue[head]);
            }
            return rows[FAR];
        }

        void leadOn(Ford ford, int stride, int from) {
            if (from < 0 || from >= NODES) {
                return;
            }
            for (int to = 0; to < NODES; to++) {
                if (fromNear[to] == fromNear[from] + 1 && ford.isStep(from, to, stride)) {
                    rows[to] = Math.min(MOST_ROWS, rows[to] + rows[from]);
                }
            }
        }

        int stoneOfLeastRow(Ford ford, int stride, int fewest, int place) {
            spread(ford, stride, FAR, fromFar, NODES);
            int standing = NEAR;
            for (int k = 0; k <= place && k < STONES; k++) {
                standing = lowestOnward(ford, stride, standing, fewest - 1 - k);
            }
            return standing;
        }

        int lowestOnward(Ford ford, int stride, int standing, int stepsLeft) {
            for (int i = 0; i < STONES; i++) {
                if (fromFar[i] == stepsLeft && ford.isStep(standing, i, stride)) {
                    return i;
                }
            }
            return CANNOT;
        }

        int driestWay(Ford ford, int stride, int what) {
            for (int node = 0; node < NODES; node++) {
                costs[node] = NONE;
                settled[node] = false;
            }
            costs[NEAR] = 0;
            for (int round = 0; round < NODES; round++) {
                int from = cheapest();
                if (from == NONE) {
                    break;
                }
                settle(ford, stride, from);
            }
            if (costs[FAR] == NONE) {
                return CANNOT;
            }
            return what == 0 ? costs[FAR] / SLIP : costs[FAR] % SLIP;
        }

        int cheapest() {
            int best = NONE;
            for (int node = 0; node < NODES; node++) {
                if (!settled[node] && costs[node] != NONE && (best == NONE || costs[node] < costs[best])) {
                    best = node;
                }
            }
            return best;
        }

        void settle(Ford ford, int stride, int from) {
            if (from < 0 || from >= NODES) {
                return;
            }
            settled[from] = true;
            for (int to = 0; to < NODES; to++) {
                if (!settled[to] && ford.isStep(from, to, stride)) {
                    int cost = costs[from] + 1 + (to < STONES ? SLIP * ford.slippery[to] : 0);
                    if (costs[to] == NONE || cost < costs[to]) {
                        costs[to] = cost;
                    }
                }
            }
        }

        int farthest(Ford ford, int stride) {
            spread(ford, stride, NEAR, fromNear, NODES);
            int best = 0;
            for (int node = 0; node < NODES; node++) {
                if (fromNear[node] != NONE) {
                    best = Math.max(best, ford.heightOf(node));
                }
            }
            return best;
        }

        int helpfulPlace(Ford ford, int stride, int what) {
            if (canCross(ford, stride)) {
                return OTHERWISE;
            }
            spread(ford, stride, FAR, fromFar, NODES);
            for (int y = 1; y <= TOP_Y; y++) {
                for (int x = 0; x <= TOP_X; x++) {
                    if (wouldJoin(ford, stride, x, y)) {
                        return what == 0 ? x : y;
                    }
                }
            }
            return CANNOT;
        }

        /** Steps go both ways, so a stone that is come to from both banks joins them. */
        boolean wouldJoin(Ford ford, int stride, int x, int y) {
            boolean isNear = false;
            boolean isFar = false;
            for (int node = 0; node < NODES; node++) {
                boolean isReached = fromNear[node] != NONE || fromFar[node] != NONE;
                if (isReached && ford.isStepFrom(node, x, y, stride)) {
                    isNear |= fromNear[node] != NONE;
                    isFar |= fromFar[node] != NONE;
                }
            }
            return isNear && isFar && ford.stoneAt(x, y) == NONE;
        }

        int islandSize(Ford ford, int stride, int i) {
            return ford.isDry(i) ? spread(ford, stride, i, fromNear, STONES) : 0;
        }

        int countIslands(Ford ford, int stride) {
            Arrays.fill(fromNear, NONE);
            int islands = 0;
            for (int i = 0; i < STONES; i++) {
                if (ford.isDry(i) && fromNear[i] == NONE) {
                    islands++;
                    spreadOn(ford, stride, i, fromNear, STONES);
                }
            }
            return islands;
        }

        /** Whether nobody of this stride would cross without the stone; the ford is as it was, behind it. */
        boolean needs(Ford ford, int stride, int i) {
            if (!ford.isDry(i)) {
                return false;
            }
            ford.sunk[i] = true;
            boolean isNeeded = !canCross(ford, stride);
            ford.sunk[i] = false;
            return isNeeded;
        }

        int meeting(Ford ford, int strideNear, int strideFar, int what) {
            spread(ford, strideNear, NEAR, fromNear, NODES);
            spread(ford, strideFar, FAR, fromFar, NODES);
            int fewest = CANNOT;
            int where = CANNOT;
            for (int i = 0; i < STONES; i++) {
                if (fromNear[i] != NONE && fromFar[i] != NONE) {
                    int steps = Math.max(fromNear[i], fromFar[i]);
                    if (where == CANNOT || steps < fewest) {
                        fewest = steps;
                        where = i;
                    }
                }
            }
            return what == 0 ? fewest : where;
        }
    }

    /**
     * As many stones must go under as there are ways over the ford that share no stone (Menger);
     * ways are added one by one, each of which may take back parts of those before.
     * A stone has two sides: i is where one comes on it, i + STONES where one leaves it.
     */
    private static final class Dam {
        static final int SIDES = 80;
        static final int START = -2;

        /** The stone (or NEAR) from which a way comes on each stone; NONE: no way does. */
        final int[] before = new int[STONES];
        final int[] cameFrom = new int[SIDES];
        final int[] queue = new int[SIDES];
        int tail = 0;

        int fewest(Ford ford, int stride) {
            Arrays.fill(before, NONE);
            for (int ways = 0; ways < STONES; ways++) {
                int last = search(ford, stride);
                if (last == NONE) {
                    return ways;
                }
                weave(last);
            }
            return STONES;
        }

        /** The side from which one more way steps to the far bank, or NONE. */
        int search(Ford ford, int stride) {
            Arrays.fill(cameFrom, NONE);
            tail = 0;
            for (int i = 0; i < STONES; i++) {
                if (ford.isStep(NEAR, i, stride)) {
                    reach(i, START);
                }
            }
            for (int head = 0; head < tail && head < SIDES; head++) {
                int side = queue[head];
                if (side < STONES) {
                    comeOn(side);
                } else if (leave(ford, stride, side - STONES)) {
                    return side;
                }
            }
            return NONE;
        }

        void reach(int side, int from) {
            if (side >= 0 && side < SIDES && tail >= 0 && tail < SIDES && cameFrom[side] == NONE) {
                cameFrom[side] = from;
                queue[tail] = side;
                tail++;
            }
        }

        void comeOn(int i) {
            if (i < 0 || i >= STONES) {
                return;
            }
            if (before[i] == NONE) {
                reach(i + STONES, i);
            } else if (before[i] < STONES) {
                // Another way comes here from a stone: from that one it may be led elsewhere.
                reach(before[i] + STONES, i);
            }
        }

        /**
         * Whether one steps from here to the far bank. If a way leaves here already, the search came from the stone
         * that this way goes to: so that one is neither the bank nor met for the first time.
         */
        boolean leave(Ford ford, int stride, int i) {
            if (i < 0 || i >= STONES) {
                return false;
            }
            if (ford.isStep(i, FAR, stride)) {
                return true;
            }
            for (int to = 0; to < STONES; to++) {
                if (ford.isStep(i, to, stride)) {
                    reach(to, i + STONES);
                }
            }
            // A way that comes through here may also be given up as far back as this.
            reach(i, i + STONES);
            return false;
        }

        void weave(int last) {
            int side = last;
            int to = FAR;
            for (int k = 0; k <= SIDES && side >= 0 && side < SIDES; k++) {
                if (side >= STONES) {
                    join(side - STONES, to);
                } else if (cameFrom[side] == START) {
                    before[side] = NEAR;
                }
                to = side;
                side = cameFrom[side];
            }
        }

        /** Notes that the new way leaves stone i for another one; for i itself: that i is given up. */
        void join(int i, int to) {
            if (to >= 0 && to < STONES) {
                before[to] = to == i ? NONE : i;
            }
        }
    }

    /** A walk: what each step goes in all, and how far somebody came by it. */
    private static final class Plan {
        static final int OPEN_MOST = 2;

        final int[] up = new int[WALK_STEPS];
        final int[] over = new int[WALK_STEPS];
        int steps = 0;
        int good = 0;
        int x = 0;
        int y = 0;

        boolean read(Tape text) {
            steps = 0;
            if (!readSteps(text, 0)) {
                return false;
            }
            return text.here() == END || text.refuse(1, text.place);
        }

        private boolean readSteps(Tape text, int open) {
            for (int k = 0; k < WALK_BYTES; k++) {
                boolean isRead = text.here() == '(' ? readRound(text, open) : readHops(text);
                if (!isRead) {
                    return false;
                }
                if (text.here() != ',') {
                    return true;
                }
                text.place++;
            }
            return text.refuse(1, text.place);
        }

        private boolean readRound(Tape text, int open) {
            int start = text.place;
            int first = steps;
            if (open >= OPEN_MOST) {
                return text.refuse(5, start);
            }
            text.place++;
            if (!readSteps(text, open + 1) || !text.skip(')')) {
                return false;
            }
            if (text.here() != 'x') {
                return true;
            }
            text.place++;
            int digit = text.here();
            if (digit < '2' || digit > '9') {
                return text.refuse(1, text.place);
            }
            text.place++;
            return repeat(first, digit - '1') || text.refuse(6, start);
        }

        /** False: there would be more steps than there may be. */
        boolean repeat(int first, int timesMore) {
            int length = steps - first;
            int inAll = steps + length * timesMore;
            if (first < 0 || length < 0 || inAll > WALK_STEPS) {
                return false;
            }
            for (int k = steps; k < inAll; k++) {
                up[k] = up[k - length];
                over[k] = over[k - length];
            }
            steps = inAll;
            return true;
        }

        boolean readHops(Tape text) {
            int start = text.place;
            int sumUp = 0;
            int sumOver = 0;
            for (int k = 0; k < WALK_BYTES && isHop(text.here()); k++) {
                int letter = text.here();
                text.place++;
                int far = Tape.isDigit(text.here()) ? text.number(2) : 1;
                if (far == NONE) {
                    return false;
                }
                sumUp += letter == 'u' ? far : letter == 'd' ? -far : 0;
                sumOver += letter == 'o' ? far : letter == 'b' ? -far : 0;
            }
            if (text.place == start) {
                return text.refuse(1, start);
            }
            if (steps < 0 || steps >= WALK_STEPS) {
                return text.refuse(6, start);
            }
            up[steps] = sumUp;
            over[steps] = sumOver;
            steps++;
            return true;
        }

        static boolean isHop(int letter) {
            return letter == 'u' || letter == 'd' || letter == 'o' || letter == 'b';
        }

        void go(Ford ford, int stride, int startX) {
            good = 0;
            x = startX;
            y = 0;
            for (int k = 0; k < steps && k < WALK_STEPS && y < FAR_Y; k++) {
                int toX = x + up[k];
                int toY = Math.max(0, Math.min(FAR_Y, y + over[k]));
                boolean isNoFarther = up[k] * up[k] + over[k] * over[k] <= stride * stride;
                if (!isNoFarther || !isFooting(ford, toX, toY)) {
                    return;
                }
                x = toX;
                y = toY;
                good++;
            }
        }

        static boolean isFooting(Ford ford, int toX, int toY) {
            if (toY == 0 || toY == FAR_Y) {
                return toX >= 0 && toX <= TOP_X;
            }
            return ford.isDry(ford.stoneAt(toX, toY));
        }
    }

    /** Which of the lowest told stones was at which chalked place. */
    private static final class Chalk {
        static final int SETS = 128;

        final int[] markX = new int[CHALK_MOST];
        final int[] markY = new int[CHALK_MOST];
        final int[] lowest = new int[CHALK_MOST];
        final int[] ways = new int[CHALK_MOST * CHALK_MOST];
        /** By the set of stones that the first places have: the fewest way of all places behind these. */
        final int[] rest = new int[SETS];

        /** False: a place is beyond the ford. */
        boolean read(Tape text, int n) {
            for (int place = 0; place < n && place < CHALK_MOST; place++) {
                markX[place] = text.byteAt(2 * place);
                markY[place] = text.byteAt(2 * place + 1);
                if (markX[place] > TOP_X || markY[place] > TOP_Y) {
                    return false;
                }
            }
            return true;
        }

        void match(Ford ford, int n) {
            int next = 0;
            for (int k = 0; k < n && k < CHALK_MOST; k++) {
                lowest[k] = ford.nextTold(next);
                next = lowest[k] + 1;
                measure(ford, n, k);
            }
            for (int set = Math.min(1 << n, SETS) - 1; set >= 0; set--) {
                rest[set] = fewestBehind(n, set);
            }
        }

        void measure(Ford ford, int n, int k) {
            if (k < 0 || k >= CHALK_MOST || !ford.isTold(lowest[k])) {
                return;
            }
            int i = lowest[k];
            for (int place = 0; place < n && place < CHALK_MOST; place++) {
                ways[place * CHALK_MOST + k] = Math.abs(ford.x[i] - markX[place]) + Math.abs(ford.y[i] - markY[place]);
            }
        }

        int fewestBehind(int n, int set) {
            int place = Integer.bitCount(set);
            if (place >= n) {
                return 0;
            }
            int fewest = Integer.MAX_VALUE;
            for (int k = 0; k < n && k < CHALK_MOST; k++) {
                fewest = Math.min(fewest, wayWith(set, place, k));
            }
            return fewest;
        }

        /** The way if stone k is at this place; one that is taken already is never the fewest. */
        int wayWith(int set, int place, int k) {
            if (k < 0 || k >= CHALK_MOST || place < 0 || place >= CHALK_MOST || set < 0) {
                return Integer.MAX_VALUE;
            }
            int more = set | 1 << k;
            if (more == set || more >= SETS) {
                return Integer.MAX_VALUE;
            }
            return ways[place * CHALK_MOST + k] + rest[more];
        }

        int wayInAll() {
            return rest[0];
        }

        /** Each place in turn has the lowest stone by which the whole way can still be the fewest. */
        int stoneOf(int n, int wanted) {
            int set = 0;
            int answer = NONE;
            for (int place = 0; place <= wanted && place < CHALK_MOST; place++) {
                for (int k = 0; k < n && k < CHALK_MOST; k++) {
                    if (set >= 0 && set < SETS && wayWith(set, place, k) == rest[set]) {
                        answer = lowest[k];
                        set |= 1 << k;
                        break;
                    }
                }
            }
            return answer;
        }
    }

    /** What the told stones look like from above. */
    private static final class Shapes {
        static int line(Ford ford) {
            int most = Math.min(2, ford.countTold());
            for (int i = 0; i < STONES; i++) {
                for (int j = i + 1; j < STONES; j++) {
                    if (ford.told[i] && ford.told[j]) {
                        most = Math.max(most, countOnLine(ford, i, j));
                    }
                }
            }
            return most;
        }

        static int countOnLine(Ford ford, int i, int j) {
            if (!ford.isTold(i) || !ford.isTold(j)) {
                return 0;
            }
            int along = ford.x[j] - ford.x[i];
            int over = ford.y[j] - ford.y[i];
            int on = 0;
            for (int k = 0; k < STONES; k++) {
                if (ford.told[k] && along * (ford.y[k] - ford.y[i]) == over * (ford.x[k] - ford.x[i])) {
                    on++;
                }
            }
            return on;
        }

        static int yardApart(Ford ford) {
            int longest = 0;
            for (int i = 0; i < STONES; i++) {
                if (ford.told[i]) {
                    int length = 1;
                    while (length < TOP_Y && ford.stoneAt(ford.x[i], ford.y[i] + length) != NONE) {
                        length++;
                    }
                    longest = Math.max(longest, length);
                }
            }
            return longest;
        }

        static int pairs(Ford ford) {
            int twos = 0;
            for (int i = 0; i < STONES; i++) {
                int other = nearest(ford, i);
                if (other > i && nearest(ford, other) == i) {
                    twos++;
                }
            }
            return twos;
        }

        static int nearest(Ford ford, int i) {
            int best = NONE;
            for (int j = 0; j < STONES && ford.isTold(i); j++) {
                if (j != i && ford.told[j] && (best == NONE || ford.squares(i, j) < ford.squares(i, best))) {
                    best = j;
                }
            }
            return best;
        }

        static int closest(Ford ford) {
            int least = CANNOT;
            for (int i = 0; i < STONES; i++) {
                int other = nearest(ford, i);
                if (other != NONE && (least == CANNOT || ford.squares(i, other) < least)) {
                    least = ford.squares(i, other);
                }
            }
            return least;
        }
    }
}
