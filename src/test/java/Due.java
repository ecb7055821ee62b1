/** Counts what was asked and prints every answer that is not the one that is due. */
final class Due {
    private static int asked = 0;
    private static int wrong = 0;

    private Due() {
    }

    static void is(String call, long got, long want) {
        asked++;
        if (got != want) {
            wrong++;
            System.out.println(call + " answered " + got + ", due is " + want);
        }
    }

    static void is(String call, boolean got, boolean want) {
        is(call, got ? 1 : 0, want ? 1 : 0);
    }

    /** Feeds a text, with signs behind it that no text of the document may hold. */
    static int text(SteppingStones ford, String text) {
        int[] bytes = new int[text.length()];
        for (int i = 0; i < bytes.length; i++) {
            bytes[i] = text.charAt(i);
        }
        bytes(ford, bytes);
        return text.length();
    }

    static int bytes(SteppingStones ford, int... bytes) {
        for (int from = 0; from < bytes.length; from += 20) {
            int[] row = new int[5];
            for (int k = 0; k < 20; k++) {
                int sign = from + k < bytes.length ? bytes[from + k] : '#';
                row[k / 4] |= (sign & 255) << 24 - 8 * (k % 4);
            }
            ford.feed(row[0], row[1], row[2], row[3], row[4]);
        }
        return bytes.length;
    }

    static int law(SteppingStones ford, String text) {
        return ford.law(text(ford, text));
    }

    static int notebook(SteppingStones ford, String text) {
        return ford.notebook(text(ford, text));
    }

    static int walk(SteppingStones ford, int p, int x, String text, int what) {
        return ford.walk(p, x, text(ford, text), what);
    }

    static int chalk(SteppingStones ford, int what, int... places) {
        return ford.chalk(bytes(ford, places) / 2, what);
    }

    static int letters(SteppingStones ford, int what, int... weights) {
        return ford.letters(bytes(ford, weights), what);
    }

    static void end() {
        System.out.println(asked + " answers asked, " + wrong + " of them wrong");
        if (wrong != 0 || asked == 0) {
            System.exit(1);
        }
    }
}
