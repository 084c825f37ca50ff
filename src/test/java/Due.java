/** Compares answers with those that are due, and ends a test's program by what it found. */
final class Due {
    static final int INVALID = -1000001;
    static final int IMPOSSIBLE = -1000002;
    static final int REACHED = -1000003;
    static final int MISSING = -1000004;

    /** Numbers beyond every range, and those where sums and products wrap around. */
    static final int[] WILD = {Integer.MIN_VALUE, Integer.MIN_VALUE + 1, -1000001, -2,
            1_000_000, Integer.MAX_VALUE - 1, Integer.MAX_VALUE};

    private static int wrong;
    private static int compared;
    private static String sentence = "";

    private Due() {
    }

    /** Names the sentence of the document that the next answers are held against. */
    static void about(String next) {
        sentence = "\"" + next + "\": ";
    }

    static void same(String call, int got, int want) {
        compared++;
        if (got != want) {
            wrong++;
            System.out.println(sentence + call + " answered " + got + ", due is " + want);
        }
    }

    static void same(String call, String got, String want) {
        compared++;
        if (!got.equals(want)) {
            wrong++;
            System.out.println(sentence + call + " left " + got + ", due is " + want);
        }
    }

    static void type(LiningLog log, String text) {
        for (int at = 0; at < text.length(); at++) {
            log.type(text.charAt(at));
        }
    }

    /** Replaces the text of the log. */
    static void text(LiningLog log, String text) {
        log.clearText();
        type(log, text);
        same("length of \"" + text + "\"", log.count(8), text.length());
    }

    static LiningLog lining(int rings, int sectors) {
        LiningLog log = new LiningLog();
        same("begin(" + rings + ", " + sectors + ")", log.begin(rings, sectors), rings * sectors);
        return log;
    }

    static void heats(LiningLog log, int number, int temperature, int slag) {
        for (int made = 0; made < number; made++) {
            int answer = log.heat(temperature, slag);
            if (answer < 0) {
                same("heat " + made + " of " + number, answer, 0);
            }
        }
    }

    /** The accounts must balance in every state. */
    static void balanced(String when, LiningLog log) {
        same(when + ": laid + gunned", log.account(0) + log.account(1),
                log.account(2) + log.account(3) + log.account(4));
    }

    static void end(String test) {
        System.out.println(test + ": " + compared + " answers compared, " + wrong + " wrong");
        if (wrong > 0 || compared == 0) {
            System.exit(1);
        }
    }
}
