import java.util.Random;

/**
 * Runs of drawn calls on the class and on the slow model: both must answer alike. The seeds are fixed. Two runs go on at
 * once, call by call, since all memory is the ford's own.
 */
public final class ModelTest {
    private static final int RUNS = 200;
    private static final int CALLS = 400;

    private final Random random;
    private final SteppingStones real = new SteppingStones();
    private final Model model = new Model();
    private final String run;
    private final int width;

    private ModelTest(int seed) {
        random = new Random(seed);
        run = "run " + seed + ": ";
        width = 3 + random.nextInt(37);
    }

    public static void main(String[] args) {
        int from = args.length > 0 ? Integer.parseInt(args[0]) : 0;
        int runs = args.length > 1 ? Integer.parseInt(args[1]) : RUNS;
        for (int seed = from; seed < from + runs; seed += 2) {
            ModelTest one = new ModelTest(seed);
            ModelTest other = new ModelTest(seed + 1);
            one.begin();
            other.begin();
            for (int k = 0; k < CALLS; k++) {
                one.call(one.random.nextInt(33));
                other.call(other.random.nextInt(33));
            }
            one.end();
            other.end();
        }
        Due.end();
    }

    private void begin() {
        for (int p = 0; p < 8; p++) {
            if (random.nextInt(4) > 0) {
                int stride = random.nextInt(5) == 0 ? 1 + random.nextInt(30) : 2 + random.nextInt(8);
                same("person", real.person(p, stride), model.person(p, stride));
            }
        }
        int start = random.nextInt(41);
        for (int k = 0; k < start; k++) {
            lay();
        }
    }

    private void end() {
        for (int i = 0; i < 40; i++) {
            for (int what = 0; what < 5; what++) {
                same("at the end stoneIs " + i + " " + what, real.stoneIs(i, what), model.stoneIs(i, what));
            }
        }
        for (int what = 0; what < 20; what++) {
            same("at the end count " + what, real.count(what), model.count(what));
        }
    }

    private void same(String call, long got, long want) {
        Due.is(run + call, got, want);
    }

    private void same(String call, boolean got, boolean want) {
        Due.is(run + call, got, want);
    }

    /** Mostly within the bounds, at times just beyond them, seldom far off. */
    private int number(int least, int most) {
        int way = random.nextInt(60);
        if (way == 0) {
            return least - 1;
        }
        if (way == 1) {
            return most + 1;
        }
        if (way == 2) {
            return random.nextBoolean() ? Integer.MIN_VALUE : Integer.MAX_VALUE;
        }
        return least + random.nextInt(most - least + 1);
    }

    private void lay() {
        int i = number(0, 39);
        int x = number(0, width - 1);
        int y = number(1, 20);
        int s = number(0, 9);
        same("stone " + i + " " + x + " " + y + " " + s, real.stone(i, x, y, s), model.stone(i, x, y, s));
    }

    private void fill(String text) {
        if (model.tapeSize() > 0 && random.nextInt(10) > 0) {
            same("check 0", real.check(0), model.check(0));
        }
        for (int from = 0; from < text.length(); from += 20) {
            int[] row = new int[5];
            for (int k = 0; k < 20; k++) {
                int sign = from + k < text.length() ? text.charAt(from + k) : random.nextInt(256);
                row[k / 4] |= (sign & 255) << 24 - 8 * (k % 4);
            }
            same("feed", real.feed(row[0], row[1], row[2], row[3], row[4]), model.feed(row));
        }
    }

    /** As long as the text, now and then not quite. */
    private int length(String text) {
        int way = random.nextInt(30);
        return way == 0 ? text.length() - 1 : way == 1 ? text.length() + 1 : way == 2 ? number(0, 260) : text.length();
    }

    private String spoil(String text, String signs) {
        StringBuilder spoilt = new StringBuilder(text);
        int times = random.nextInt(3) > 0 ? 0 : 1 + random.nextInt(3);
        for (int k = 0; k < times && spoilt.length() > 0; k++) {
            int at = random.nextInt(spoilt.length());
            char sign = random.nextInt(12) == 0 ? (char) random.nextInt(256) : signs.charAt(random.nextInt(signs.length()));
            switch (random.nextInt(4)) {
                case 0:
                    spoilt.deleteCharAt(at);
                    break;
                case 1:
                    spoilt.insert(at, sign);
                    break;
                case 2:
                    spoilt.setLength(at);
                    break;
                default:
                    spoilt.setCharAt(at, sign);
            }
        }
        return spoilt.length() == 0 ? "x" : spoilt.toString();
    }

    private String factor(int depth) {
        int way = random.nextInt(10);
        if (way < 2 && depth > 0) {
            return "[" + sum(depth - 1) + "]";
        }
        if (way < 5) {
            return Integer.toString(random.nextInt(random.nextInt(8) == 0 ? 100000 : 10));
        }
        return "" + "ixysenrg".charAt(random.nextInt(8));
    }

    private String sum(int depth) {
        StringBuilder text = new StringBuilder(factor(depth));
        for (int k = random.nextInt(6) - 2; k > 0; k--) {
            text.append("+-*/%+-".charAt(random.nextInt(7))).append(factor(depth));
        }
        return text.toString();
    }

    private String test(int depth) {
        int way = random.nextInt(8);
        if (way == 0 && depth > 0) {
            return "!" + test(depth - 1);
        }
        if (way == 1 && depth > 0) {
            return "(" + choice(depth - 1) + ")";
        }
        return sum(depth) + "<>=".charAt(random.nextInt(3)) + sum(depth);
    }

    private String choice(int depth) {
        StringBuilder text = new StringBuilder(test(depth));
        for (int k = random.nextInt(5) - 2; k > 0; k--) {
            text.append("&|".charAt(random.nextInt(2))).append(test(depth));
        }
        return text.toString();
    }

    private String lawText() {
        StringBuilder text = new StringBuilder();
        int rules = random.nextInt(12) == 0 ? 14 + random.nextInt(5) : 1 + random.nextInt(6);
        int depth = random.nextInt(7);
        for (int k = 0; k < rules; k++) {
            char letter = "udobx".charAt(random.nextInt(5));
            String choice = rules > 10 || random.nextInt(4) == 0 ? "i=i" : choice(depth);
            String amount = rules > 10 ? "1" : sum(depth);
            text.append(k > 0 ? ";" : "").append(letter).append(letter == 'x' ? "" : amount);
            text.append('(').append(choice).append(')');
        }
        String spoilt = spoil(text.toString(), "udobx()[]!&|<>=+-*/%0123456789ixysenrg;");
        return spoilt.length() > 240 ? spoilt.substring(0, 240) : spoilt;
    }

    private String notebookText() {
        StringBuilder text = new StringBuilder();
        int lines = random.nextInt(10) == 0 ? 39 + random.nextInt(3) : 1 + random.nextInt(25);
        for (int k = 0; k < lines; k++) {
            int x = lines > 30 ? k % 10 : random.nextInt(width);
            int y = lines > 30 ? 1 + k / 10 : 1 + random.nextInt(20);
            text.append(k > 0 ? ";" : "").append(x < 10 && random.nextInt(9) == 0 ? "0" : "").append(x);
            text.append(',').append(y);
            if (random.nextInt(4) == 0 && lines < 30) {
                text.append('s').append(random.nextInt(10));
            }
            if (random.nextInt(8) == 0 && lines < 30) {
                text.append('u');
            }
        }
        String spoilt = spoil(text.toString(), "0123456789,;su");
        return spoilt.length() > 200 ? spoilt.substring(0, 200) : spoilt;
    }

    private String stepsText(int depth) {
        StringBuilder text = new StringBuilder();
        int steps = 1 + random.nextInt(5);
        for (int k = 0; k < steps; k++) {
            text.append(k > 0 ? "," : "");
            if (depth > 0 && random.nextInt(3) == 0) {
                text.append('(').append(stepsText(depth - 1)).append(')');
                if (random.nextInt(3) > 0) {
                    text.append('x').append(2 + random.nextInt(8));
                }
            } else {
                for (int hops = 1 + random.nextInt(2); hops > 0; hops--) {
                    text.append("udob".charAt(random.nextInt(4)));
                    text.append(random.nextBoolean() ? "" : Integer.toString(random.nextInt(random.nextInt(6) == 0 ? 100 : 5)));
                }
            }
        }
        return text.toString();
    }

    /** A walk from stone to stone, so that some steps are good. */
    private String wanderText(int x) {
        StringBuilder text = new StringBuilder();
        int y = 0;
        for (int k = 0; k < 1 + random.nextInt(6); k++) {
            int i = model.someTold(random.nextInt(40));
            int[] to = model.placeOf(i);
            int toX = to == null || random.nextInt(8) == 0 ? x : to[0];
            int toY = to == null || random.nextInt(8) == 0 ? random.nextInt(26) : to[1];
            text.append(k > 0 ? "," : "");
            text.append(toX >= x ? "u" : "d").append(Math.abs(toX - x));
            text.append(toY >= y ? "o" : "b").append(Math.abs(toY - y));
            x = toX;
            y = toY;
        }
        return text.toString();
    }

    private void call(int which) {
        if (which < 12) {
            change(which);
        } else if (which < 24) {
            ask(which);
        } else {
            read(which);
        }
    }

    private void change(int which) {
        switch (which) {
            case 0:
            case 1:
                lay();
                break;
            case 2: {
                int i = number(0, 39);
                same("take " + i, real.take(i), model.take(i));
                break;
            }
            case 3: {
                int i = random.nextInt(5) == 0 ? number(0, 39) : model.someTold(random.nextInt(40));
                boolean is = random.nextBoolean();
                same("under " + i, real.under(i, is), model.under(i, is));
                break;
            }
            case 4: {
                int p = number(0, 7);
                int stride = number(1, 30);
                same("person " + p + " " + stride, real.person(p, stride), model.person(p, stride));
                break;
            }
            case 5:
            case 6: {
                String text = lawText();
                fill(text);
                int n = length(text);
                same("law " + n + " " + text, real.law(n), model.law(n));
                break;
            }
            case 7: {
                String text = notebookText();
                fill(text);
                int n = length(text);
                same("notebook " + n + " " + text, real.notebook(n), model.notebook(n));
                break;
            }
            case 8:
            case 9: {
                int n = random.nextInt(4) == 0 ? number(1, 60) : 1 + random.nextInt(3);
                same("nights " + n, real.nights(n), model.nights(n));
                break;
            }
            case 10: {
                int x = number(0, 65535);
                same("seed " + x, real.seed(x), model.seed(x));
                break;
            }
            default:
                if (random.nextBoolean()) {
                    same("keep", real.keep(), model.keep());
                } else {
                    same("undo", real.undo(), model.undo());
                }
        }
    }

    private void ask(int which) {
        int p = number(0, 7);
        int what = number(0, 1);
        switch (which) {
            case 12: {
                int n = random.nextInt(4) == 0 ? number(1, 60) : 1 + random.nextInt(3);
                int of = random.nextBoolean() ? number(0, 3) : (random.nextBoolean() ? 100 : 200) + number(0, 39);
                same("tried " + n + " " + of, real.tried(n, of), model.tried(n, of));
                break;
            }
            case 13: {
                int i = model.someTold(number(0, 39));
                int of = number(0, 4);
                same("stoneIs " + i + " " + of, real.stoneIs(i, of), model.stoneIs(i, of));
                int x = number(0, 39);
                int y = number(1, 20);
                same("at " + x + " " + y, real.at(x, y), model.at(x, y));
                break;
            }
            case 14:
            case 15: {
                int of = random.nextBoolean() ? number(100, 101) : random.nextInt(3) == 0 ? number(0, 39) : random.nextInt(6);
                same("cross " + p + " " + of, real.cross(p, of), model.cross(p, of));
                break;
            }
            case 16:
                same("driest " + p + " " + what, real.driest(p, what), model.driest(p, what));
                break;
            case 17:
                same("leastStride", real.leastStride(), model.leastStride());
                same("market", real.market(), model.market());
                break;
            case 18:
                same("howFar " + p, real.howFar(p), model.howFar(p));
                same("hold " + p, real.hold(p), model.hold(p));
                break;
            case 19:
                same("oneMore " + p + " " + what, real.oneMore(p, what), model.oneMore(p, what));
                break;
            case 20: {
                int stride = number(1, 30);
                int of = random.nextBoolean() ? 100 : number(0, 39);
                same("islands " + stride + " " + of, real.islands(stride, of), model.islands(stride, of));
                break;
            }
            case 21:
                same("key " + p + " " + what, real.key(p, what), model.key(p, what));
                break;
            case 22: {
                int q = number(0, 7);
                same("meet " + p + " " + q + " " + what, real.meet(p, q, what), model.meet(p, q, what));
                break;
            }
            default:
                if (random.nextInt(4) == 0) {
                    same("firstNight " + p, real.firstNight(p), model.firstNight(p));
                }
        }
    }

    private void read(int which) {
        switch (which) {
            case 24:
            case 25:
            case 26: {
                int x = number(0, 39);
                String text = which == 24 ? wanderText(x) : spoil(stepsText(random.nextInt(4)), "udob0123456789,()x");
                text = text.length() > 60 ? text.substring(0, 60) : text;
                fill(text);
                int p = number(0, 7);
                int n = length(text);
                int what = number(0, 3);
                same("walk " + x + " " + n + " " + text, real.walk(p, x, n, what), model.walk(p, x, n, what));
                break;
            }
            case 27: {
                int n = number(1, 7);
                StringBuilder text = new StringBuilder();
                for (int k = 0; k < 14; k++) {
                    text.append((char) (random.nextInt(k % 2 == 0 ? 40 : 21) + (random.nextInt(60) == 0 ? 20 : 0)));
                }
                fill(text.toString());
                int what = random.nextBoolean() ? 100 : number(0, Math.max(1, Math.min(n, 7)) - 1);
                same("chalk " + n + " " + what, real.chalk(n, what), model.chalk(n, what));
                break;
            }
            case 28: {
                int what = number(0, 3);
                same("shape " + what, real.shape(what), model.shape(what));
                break;
            }
            case 29: {
                int n = number(1, 8);
                StringBuilder text = new StringBuilder();
                int most = random.nextBoolean() ? 255 : 5;
                for (int k = 0; k < 8; k++) {
                    text.append((char) (random.nextInt(50) == 0 ? 0 : 1 + random.nextInt(most)));
                }
                fill(text.toString());
                int what = number(0, 1);
                same("letters " + n + " " + what, real.letters(n, what), model.letters(n, what));
                break;
            }
            case 30: {
                int n = number(1, 6);
                same("thrown " + n, real.thrown(n), model.thrown(n));
                break;
            }
            case 31: {
                int n = number(0, 40);
                StringBuilder text = new StringBuilder();
                for (int i = 0; i < 40; i++) {
                    int[] s = model.placeOf(i);
                    text.append((char) (random.nextInt(60) == 0 ? random.nextInt(256) : s == null ? 255 : s[0]));
                }
                fill(text.toString());
                same("check " + n, real.check(n), model.check(n));
                break;
            }
            default: {
                int what = number(0, 18);
                same("count " + what, real.count(what), model.count(what));
            }
        }
    }
}
