/** Promises 22 to 26: the text, its fault, carrying it out, and why a line is refused. */
public final class TextsTest {
    private TextsTest() {
    }

    public static void main(String[] args) {
        promise22Type();
        promise23ClearText();
        promise24NoFault();
        promise24Form();
        promise24Ranges();
        promise24PresentLining();
        promise25Run();
        promise25OneChange();
        promise25StopsAtRefused();
        promise25Refused();
        promise26Reason();
        promise26OneRatherThanTwo();
        Due.end("TextsTest");
    }

    private static void promise22Type() {
        LiningLog log = new LiningLog();
        for (int character : new int[] {31, 127, 0, -1, 128, 65568}) {
            Due.same("type(" + character + ")", log.type(character), Due.INVALID);
        }
        for (int wild : Due.WILD) {
            Due.same("type(" + wild + ")", log.type(wild), Due.INVALID);
        }
        Due.same("type(32)", log.type(32), 1);
        Due.same("type(126)", log.type(126), 2);
        for (int length = 3; length <= 100; length++) {
            Due.same("type('s')", log.type('s'), length);
        }
        Due.same("one too many", log.type('s'), Due.REACHED);
        Due.same("invalid rather than limit reached", log.type(31), Due.INVALID);
        Due.same("length", log.count(8), 100);
        Due.same("states", log.count(7), 0);
    }

    private static void promise23ClearText() {
        LiningLog log = new LiningLog();
        Due.same("clearText() of none", log.clearText(), 0);
        Due.text(log, "xyz");
        Due.same("clearText()", log.clearText(), 3);
        Due.same("length", log.count(8), 0);
        Due.same("fault()", log.fault(), Due.MISSING);
        Due.same("clearText() again", log.clearText(), 0);
        // What was typed before must not stand behind a shorter text.
        Due.text(log, "h1600,0;");
        Due.text(log, "h1600,0");
        Due.same("fault of the shorter one", log.fault(), 0);
        Due.same("states", log.count(7), 0);
    }

    private static void fault(LiningLog log, String text, int want) {
        Due.text(log, text);
        Due.same("fault of \"" + text + "\"", log.fault(), want);
    }

    private static void promise24NoFault() {
        LiningLog log = new LiningLog();
        Due.same("fault of the empty text", log.fault(), Due.MISSING);
        String[] right = {"s;", "h1400,0;", "h1800,100;", "h1600,0100;", "g0,1;", "g17,500;",
            "g0017,0500;", "r0;", "r2;", "r0002;", "s;s;s;", "h1600,7;g3,44;s;r1;h1700,07;",
            "s;".repeat(50)};
        for (String text : right) {
            fault(log, text, Due.MISSING);
        }
    }

    private static void promise24Form() {
        String[] wrong = {";", "s", "h", "g", "r", "x;", "S;", " s;", "s ;", "ss;", "s1;", "s,;", "h;",
            "h1600;", "h1600,;", "h,0;", "h1600,0", "h1600 0;", "h1600, 0;", "h 1600,0;", "h1600,0 ;",
            "h1600,0,0;", "h1600,,0;", "h01600,0;", "h1600,00000;", "h-1600,0;", "h+1600,0;",
            "h1600,-1;", "h1600;0;", "g;", "g0;", "g0,;", "g,5;", "g00000,5;", "g0,00005;", "g0,5",
            "g0,5,5;", "r;", "r0", "r-1;", "r00000;", "r0,0;", "r 0;", "rr0;", "H1600,0;", "0;", ",;",
            "h16x0,0;", "h1600.0;", "h/600,0;", "h:600,0;", "h12345678901,0;"};
        for (String text : wrong) {
            LiningLog each = new LiningLog();
            fault(each, text, 0);
            fault(each, "s;" + text, 2);
            fault(each, "h1600,0;s;" + text, 10);
            fault(each, text + "s;", 0);
        }
        LiningLog log = new LiningLog();
        fault(log, "s;;s;", 2);
        fault(log, "s;s", 2);
        fault(log, "r1;g1,1;h1600,1", 8);
        for (String ending : new String[] {"ss", "h;", "h1"}) {
            fault(new LiningLog(), "s;".repeat(49) + ending, 98);
        }
        fault(new LiningLog(), "s;".repeat(47) + "h1600,", 94);
        fault(new LiningLog(), "s;".repeat(47) + "g0,50;", Due.MISSING);
    }

    private static void promise24Ranges() {
        LiningLog log = new LiningLog();
        String[] wrong = {"h1399,0;", "h1801,0;", "h1600,101;", "h0,0;", "h9999,0;", "h1600,9999;",
            "g18,1;", "g0,0;", "g0,501;", "g9999,1;", "g0,0000;", "r3;", "r9999;"};
        for (String text : wrong) {
            fault(log, text, 0);
            fault(log, "g1,1;" + text + "s;", 5);
        }
        fault(log, "r3;x", 0);
        fault(log, "s;r0;r3;x", 5);
    }

    /** Whether there is a spot or a ring is asked of the lining as it is when the text is read. */
    private static void promise24PresentLining() {
        LiningLog log = new LiningLog();
        fault(log, "g17,1;r2;", Due.MISSING);
        log.begin(1, 3);
        Due.same("no spot 17", log.fault(), 0);
        Due.same("run()", log.run(), Due.IMPOSSIBLE);
        fault(log, "g2,1;r2;", 5);
        log.begin(6, 10);
        fault(log, "g59,1;r5;", Due.MISSING);
        fault(log, "g60,1;r5;", 0);
        fault(log, "g59,1;r6;", 6);
    }

    private static void promise25Run() {
        LiningLog log = Due.lining(2, 3);
        log.set(1, 500);
        Due.text(log, "h1600,0;s;g4,0100;r0;h1800,100;s;");
        Due.same("run()", log.run(), 6);
        Due.same("heats", log.count(2), 2);
        Due.same("scans", log.count(6), 2);
        Due.same("heat of the first scan", log.scanned(0, 0, 4), 1);
        Due.same("first scan", log.scanned(0, 0, 1), 2990);
        Due.same("second scan", log.scanned(1, 0, 1), 2980);
        Due.same("layer", log.spot(4, 1), 60 - 40);
        Due.same("laid", log.account(0), 27000);
        Due.same("worn", log.account(2), 60 + 5 * 20 + 40);
        Due.same("broken out", log.account(3), 3 * 2990);
        Due.same("stock", log.count(24), 19900);
        Due.same("the text stays", log.count(8), 33);
        Due.same("fault()", log.fault(), Due.MISSING);
        Due.same("reason()", log.reason(), 0);
        Due.balanced("run", log);
        Due.same("run() again", log.run(), 6);
        Due.same("heats", log.count(2), 4);
        Due.text(log, "s;".repeat(50));
        Due.same("fifty lines", log.run(), 50);
        Due.same("scans", log.count(6), 4);
    }

    private static void promise25OneChange() {
        LiningLog log = Due.lining(1, 3);
        Due.text(log, "h1600,0;h1600,0;s;");
        Due.same("run()", log.run(), 3);
        Due.same("states", log.count(7), 2);
        Due.same("undo()", log.undo(), 1);
        Due.same("heats", log.count(2), 0);
        Due.same("scans", log.count(6), 0);
        Due.same("the text stays", log.count(8), 18);
        log.clearText();
        Due.same("run() of nothing", log.run(), 0);
        Due.same("a change all the same", log.count(7), 2);
        log.set(4, 0);
        Due.text(log, "g0,1;s;");
        Due.same("none is carried out", log.run(), 0);
        Due.same("a change all the same", log.count(7), 4);
        Due.same("scans", log.count(6), 0);
    }

    private static void promise25StopsAtRefused() {
        LiningLog log = Due.lining(1, 3);
        log.set(4, 30);
        Due.text(log, "g0,20;g1,11;g1,10;s;");
        Due.same("the second one is refused", log.run(), 1);
        Due.same("reason()", log.reason(), 3);
        Due.same("layer of 0", log.spot(0, 1), 12);
        Due.same("layer of 1", log.spot(1, 1), 0);
        Due.same("stock", log.count(24), 10);
        Due.same("no scan", log.count(6), 0);
        LiningLog over = Due.lining(1, 3);
        over.rate(0, 50);
        over.set(0, 2000);
        Due.heats(over, 9, 1800, 100);
        Due.text(over, "s;h1800,100;h1800,100;r0;s;h1800,100;s;");
        Due.same("relining and scanning go on", over.run(), 5);
        Due.same("reason()", over.reason(), 1);
        Due.same("heats", over.count(2), 11);
        Due.same("scans", over.count(6), 2);
        Due.same("still over", over.count(5), 1);
        Due.same("relined", over.count(10), 3000);
        Due.text(over, "r0;s;");
        Due.same("nothing is refused", over.run(), 2);
        Due.same("the reason of the latest refused one", over.reason(), 1);
    }

    private static void promise25Refused() {
        LiningLog log = Due.lining(1, 3);
        for (String text : new String[] {"s", "s;x", "s;g3,1;", ";", "s;h1399,0;"}) {
            Due.text(log, text);
            Due.same("run() of \"" + text + "\"", log.run(), Due.IMPOSSIBLE);
        }
        Due.same("nothing was carried out", log.count(6), 0);
        Due.same("states", log.count(7), 1);
        Due.same("reason()", log.reason(), 0);
    }

    private static void promise26Reason() {
        LiningLog log = Due.lining(1, 3);
        log.set(4, 5);
        log.gun(0, 6);
        Due.same("calls are no lines", log.reason(), 0);
        Due.text(log, "g0,6;");
        Due.same("run()", log.run(), 0);
        Due.same("stock", log.reason(), 3);
        log.set(4, 20000);
        Due.text(log, "g0,500;g0,333;g0,4;");
        Due.same("run()", log.run(), 2);
        Due.same("thickness", log.reason(), 2);
        log.rate(0, 50);
        log.set(0, 2000);
        Due.text(log, "h1800,100;".repeat(8));
        Due.same("run()", log.run(), 8);
        Due.same("none refused: as before", log.reason(), 2);
        Due.same("run()", log.run(), 3);
        Due.same("over", log.reason(), 1);
        log.undo();
        Due.same("undo leaves it", log.reason(), 1);
        log.begin(2, 4);
        Due.same("begin leaves it", log.reason(), 1);
        log.clearText();
        Due.same("clearText leaves it", log.reason(), 1);
        log.type('x');
        log.run();
        Due.same("a fault leaves it", log.reason(), 1);
    }

    private static void promise26OneRatherThanTwo() {
        LiningLog log = Due.lining(1, 3);
        log.gun(0, 500);
        log.gun(0, 333);
        log.set(4, 3);
        Due.text(log, "g0,4;");
        Due.same("run()", log.run(), 0);
        Due.same("too thick, and the stock", log.reason(), 2);
        Due.text(log, "g1,4;");
        Due.same("run()", log.run(), 0);
        Due.same("the stock alone", log.reason(), 3);
        LiningLog over = Due.lining(2, 3);
        over.set(0, 2000);
        over.set(1, 500);
        over.rate(1, 50);
        over.rate(0, 0);
        Due.heats(over, 11, 1800, 100);
        Due.same("over", over.count(5), 1);
        over.reline(0);
        over.set(4, 0);
        Due.text(over, "g0,500;");
        Due.same("run()", over.run(), 0);
        Due.same("over, and the stock", over.reason(), 1);
        Due.text(over, "h1600,0;");
        Due.same("run()", over.run(), 0);
        Due.same("a heat", over.reason(), 1);
    }
}
